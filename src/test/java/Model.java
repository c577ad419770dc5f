import java.util.ArrayList;
import java.util.Arrays;
import java.util.List;
import java.util.NoSuchElementException;

/** The document again, written as slowly and as literally as can be, to hold the class against. */
final class Model {
    private static final int NONE = -1;

    private final List<Integer> skills = new ArrayList<>();
    private final List<Boolean> here = new ArrayList<>();
    private final List<List<Integer>> wishes = new ArrayList<>();
    private final List<Integer> scores = new ArrayList<>();
    private final List<Integer> plan = new ArrayList<>();
    private final List<Integer> lots = new ArrayList<>();
    private final boolean[][] friends = new boolean[8][8];
    private final boolean[][] apart = new boolean[8][8];
    private final List<int[]> projects = new ArrayList<>();
    private final List<Boolean> offered = new ArrayList<>();
    private final List<List<Integer>> bookedPlans = new ArrayList<>();
    private final List<List<Integer>> bookedRanks = new ArrayList<>();
    private List<Integer> row = new ArrayList<>();

    private boolean isPupil(int p) {
        return p >= 0 && p < skills.size();
    }

    private boolean isProject(int q) {
        return q >= 0 && q < projects.size();
    }

    int pupil(int s) {
        if (s < 0 || s > 255 || skills.size() == 8) {
            return NONE;
        }
        skills.add(s);
        here.add(true);
        wishes.add(new ArrayList<>());
        scores.add(0);
        plan.add(NONE);
        lots.add(skills.size() - 1);
        return skills.size() - 1;
    }

    int project(int kind, int least, int most, int s, int leader) {
        boolean sizes = least >= 1 && least <= 8 && most >= 1 && most <= 8 && least <= most;
        if (kind < 0 || kind > 3 || !sizes || s < 0 || s > 255 || projects.size() == 5) {
            return NONE;
        }
        if (kind == 3 && !isPupil(leader)) {
            return NONE;
        }
        projects.add(new int[] {kind, least, most, s, leader});
        offered.add(true);
        return projects.size() - 1;
    }

    int wish(int p, int q) {
        if (!isPupil(p) || !isProject(q) || wishes.get(p).contains(q)) {
            return NONE;
        }
        wishes.get(p).add(q);
        return wishes.get(p).size();
    }

    int wishes(int p, int kind, int n, int f, int step) {
        if (!isPupil(p) || kind < 0 || kind > 2 || n > 20) {
            return NONE;
        }
        if (kind != 2 && n < 0) {
            return -2;
        }
        int[] sheet = new int[kind == 2 ? 0 : n];
        for (int i = 0; i < sheet.length; i++) {
            sheet[i] = f + i * step;
            if (kind == 0) {
                sheet[i] = (byte) sheet[i];
            }
        }
        List<Integer> told = new ArrayList<>();
        for (int q : sheet) {
            if (!isProject(q) || told.contains(q)) {
                break;
            }
            told.add(q);
        }
        wishes.set(p, told);
        return told.size();
    }

    boolean friends(int a, int b, boolean are) {
        return tie(friends, a, b, are);
    }

    boolean apart(int a, int b, boolean are) {
        return tie(apart, a, b, are);
    }

    private boolean tie(boolean[][] ties, int a, int b, boolean are) {
        if (!isPupil(a) || !isPupil(b) || a == b) {
            return false;
        }
        ties[a][b] = are;
        ties[b][a] = are;
        return true;
    }

    boolean here(int p, boolean is) {
        if (!isPupil(p)) {
            return false;
        }
        here.set(p, is);
        return true;
    }

    boolean offered(int q, boolean is) {
        if (!isProject(q)) {
            return false;
        }
        offered.set(q, is);
        return true;
    }

    boolean lots(int seed) {
        for (int i = 0; i < lots.size(); i++) {
            lots.set(i, i);
        }
        int r = seed;
        for (int i = lots.size() - 1; i >= 1; i--) {
            r = r * 1103515245 + 12345;
            int j = (r >>> 16) % (i + 1);
            int kept = lots.get(i);
            lots.set(i, lots.get(j));
            lots.set(j, kept);
        }
        return true;
    }

    int count(int what) {
        switch (what) {
            case 0: return skills.size();
            case 1: return projects.size();
            case 2: return (int) here.stream().filter(h -> h).count();
            case 3: return bookedPlans.size();
            case 4: return row.size();
            case 5: return (int) offered.stream().filter(o -> o).count();
            default: return NONE;
        }
    }

    int of(int p, int what) {
        if (!isPupil(p) || what < 0 || what > 6) {
            throw new NoSuchElementException();
        }
        int had = plan.get(p);
        int[] all = {skills.get(p), here.get(p) ? 1 : 0, wishes.get(p).size(), scores.get(p), had,
            had == NONE ? 0 : rankIn(wishes.get(p), had), lots.indexOf(p)};
        return all[what];
    }

    int rank(int p, int q) {
        return isPupil(p) && isProject(q) ? rankIn(wishes.get(p), q) : NONE;
    }

    private static int rankIn(List<Integer> wishes, int q) {
        int place = wishes.indexOf(q);
        return place < 0 ? 6 : place + 1;
    }

    boolean put(int p, int q) {
        if (!isPupil(p) || q != NONE && !isProject(q)) {
            return false;
        }
        plan.set(p, q);
        return true;
    }

    int wrong() {
        return wrongOf(plan);
    }

    private int wrongOf(List<Integer> x) {
        for (int p = 0; p < x.size(); p++) {
            if (here.get(p) && x.get(p) == NONE) {
                return 10 + p;
            }
        }
        for (int p = 0; p < x.size(); p++) {
            if (!here.get(p) && x.get(p) != NONE) {
                return 20 + p;
            }
        }
        for (int fault = 3; fault <= 6; fault++) {
            for (int q = 0; q < projects.size(); q++) {
                List<Integer> group = new ArrayList<>();
                for (int p = 0; p < x.size(); p++) {
                    if (x.get(p) == q) {
                        group.add(p);
                    }
                }
                if (!group.isEmpty() && groupIsWrong(fault, q, group)) {
                    return fault * 10 + q;
                }
            }
        }
        for (int a = 0; a < x.size(); a++) {
            for (int b = a + 1; b < x.size(); b++) {
                if (apart[a][b] && x.get(a) != NONE && x.get(a).equals(x.get(b))) {
                    return 70 + a;
                }
            }
        }
        return 0;
    }

    private boolean groupIsWrong(int fault, int q, List<Integer> group) {
        int[] what = projects.get(q);
        int k = group.size();
        boolean once = k >= what[1] && k <= what[2];
        boolean twice = what[0] == 2 && k > what[2] && k >= 2 * what[1] && k <= 2 * what[2];
        if (fault == 3) {
            return !offered.get(q);
        }
        if (fault == 4) {
            return what[0] == 1 ? !once || k % 2 == 1 : !once && !twice;
        }
        if (fault == 5) {
            return what[0] == 3 && !group.contains(what[4]);
        }
        for (int bit = 0; bit < 8; bit++) {
            int having = 0;
            for (int p : group) {
                having += skills.get(p) >> bit & 1;
            }
            if ((what[3] >> bit & 1) == 1 && having < (twice ? 2 : 1)) {
                return true;
            }
        }
        return false;
    }

    private List<List<Integer>> rightPlans() {
        List<List<Integer>> right = new ArrayList<>();
        collect(new ArrayList<>(), right);
        return right;
    }

    private void collect(List<Integer> begun, List<List<Integer>> right) {
        if (begun.size() == skills.size()) {
            if (wrongOf(begun) == 0) {
                right.add(new ArrayList<>(begun));
            }
            return;
        }
        for (int q = NONE; q < projects.size(); q++) {
            if (here.get(begun.size()) == (q != NONE)) {
                begun.add(q);
                collect(begun, right);
                begun.remove(begun.size() - 1);
            }
        }
    }

    private int rankFor(List<List<Integer>> told, List<Integer> x, int p) {
        return x.get(p) == NONE ? 6 : rankIn(told.get(p), x.get(p));
    }

    private boolean isBetter(List<List<Integer>> told, List<Integer> x, List<Integer> y) {
        for (int r = 6; r >= 2; r--) {
            int ofX = 0;
            int ofY = 0;
            for (int p = 0; p < x.size(); p++) {
                if (here.get(p)) {
                    ofX += rankFor(told, x, p) == r ? 1 : 0;
                    ofY += rankFor(told, y, p) == r ? 1 : 0;
                }
            }
            if (ofX != ofY) {
                return ofX < ofY;
            }
        }
        int griefX = 0;
        int griefY = 0;
        for (int p = 0; p < x.size(); p++) {
            if (here.get(p)) {
                griefX += rankFor(told, x, p) * (scores.get(p) + 1);
                griefY += rankFor(told, y, p) * (scores.get(p) + 1);
            }
        }
        if (griefX != griefY) {
            return griefX < griefY;
        }
        if (friendPairs(x) != friendPairs(y)) {
            return friendPairs(x) > friendPairs(y);
        }
        for (int p : lots) {
            if (here.get(p) && !x.get(p).equals(y.get(p))) {
                int rankX = rankFor(told, x, p);
                int rankY = rankFor(told, y, p);
                if (rankX != rankY) {
                    return rankX < rankY;
                }
                int numberX = x.get(p) == NONE ? 1000 : x.get(p);
                int numberY = y.get(p) == NONE ? 1000 : y.get(p);
                return numberX < numberY;
            }
        }
        return false;
    }

    private int friendPairs(List<Integer> x) {
        int pairs = 0;
        for (int a = 0; a < x.size(); a++) {
            for (int b = a + 1; b < x.size(); b++) {
                boolean both = here.get(a) && here.get(b) && x.get(a) != NONE && x.get(a).equals(x.get(b));
                pairs += both && friends[a][b] ? 1 : 0;
            }
        }
        return pairs;
    }

    private List<Integer> bestOf(List<List<Integer>> told, List<List<Integer>> right) {
        List<Integer> best = null;
        for (List<Integer> x : right) {
            if (best == null || isBetter(told, x, best)) {
                best = x;
            }
        }
        return best;
    }

    private void makePlan(List<Integer> x) {
        for (int p = 0; p < x.size(); p++) {
            plan.set(p, x.get(p));
        }
    }

    int best() {
        List<Integer> x = bestOf(wishes, rightPlans());
        if (x == null) {
            return 0;
        }
        makePlan(x);
        return 1;
    }

    int plans(int what) {
        if (what != 0 && what != 1) {
            return NONE;
        }
        int counted = 0;
        for (List<Integer> x : rightPlans()) {
            counted += what == 0 || isBetter(wishes, x, plan) ? 1 : 0;
        }
        return counted;
    }

    int worth(int what) {
        if (what < 1 || what > 9) {
            return NONE;
        }
        int[] all = new int[10];
        boolean[] used = new boolean[5];
        for (int p = 0; p < plan.size(); p++) {
            if (here.get(p) && plan.get(p) != NONE) {
                int r = rankFor(wishes, plan, p);
                all[r]++;
                all[7] += r * (scores.get(p) + 1);
                used[plan.get(p)] = true;
            }
        }
        all[8] = friendPairs(plan);
        for (boolean u : used) {
            all[9] += u ? 1 : 0;
        }
        // Places 1 to 6 hold counts and 7 GRIEF: ranks are never above 6.
        return all[what];
    }

    int swap() {
        for (int a = 0; a < plan.size(); a++) {
            for (int b = a + 1; b < plan.size(); b++) {
                int ofA = plan.get(a);
                int ofB = plan.get(b);
                if (!here.get(a) || !here.get(b) || ofA == NONE || ofB == NONE || ofA == ofB) {
                    continue;
                }
                List<Integer> x = new ArrayList<>(plan);
                x.set(a, ofB);
                x.set(b, ofA);
                boolean both = rankFor(wishes, x, a) < rankFor(wishes, plan, a)
                    && rankFor(wishes, x, b) < rankFor(wishes, plan, b);
                if (both && wrongOf(x) == 0) {
                    row = Arrays.asList(a, b);
                    return 1;
                }
            }
        }
        return 0;
    }

    private int moved(List<Integer> x) {
        int moves = 0;
        for (int p = 0; p < x.size(); p++) {
            moves += here.get(p) && plan.get(p) != NONE && !plan.get(p).equals(x.get(p)) ? 1 : 0;
        }
        return moves;
    }

    int change() {
        List<List<Integer>> right = rightPlans();
        int fewest = Integer.MAX_VALUE;
        for (List<Integer> x : right) {
            fewest = Math.min(fewest, moved(x));
        }
        List<List<Integer>> near = new ArrayList<>();
        for (List<Integer> x : right) {
            if (moved(x) == fewest) {
                near.add(x);
            }
        }
        if (near.isEmpty()) {
            return NONE;
        }
        makePlan(bestOf(wishes, near));
        return fewest;
    }

    int lie(int p) {
        if (!isPupil(p) || !here.get(p) || count(2) > 5) {
            return NONE;
        }
        List<List<Integer>> right = rightPlans();
        if (right.isEmpty()) {
            return -2;
        }
        int honest = rankFor(wishes, bestOf(wishes, right), p);
        List<List<Integer>> rows = new ArrayList<>();
        permute(new ArrayList<>(), rows);
        for (List<Integer> tale : rows) {
            List<List<Integer>> told = new ArrayList<>(wishes);
            told.set(p, tale);
            if (rankFor(wishes, bestOf(told, right), p) < honest) {
                row = tale;
                return 1;
            }
        }
        return 0;
    }

    private void permute(List<Integer> begun, List<List<Integer>> rows) {
        if (begun.size() == projects.size()) {
            rows.add(new ArrayList<>(begun));
        }
        for (int q = 0; q < projects.size(); q++) {
            if (!begun.contains(q)) {
                begun.add(q);
                permute(begun, rows);
                begun.remove(begun.size() - 1);
            }
        }
    }

    int book() {
        if (bookedPlans.size() == 60) {
            return NONE;
        }
        if (wrong() != 0) {
            return 0;
        }
        List<Integer> ranks = new ArrayList<>();
        for (int p = 0; p < plan.size(); p++) {
            ranks.add(here.get(p) ? rankFor(wishes, plan, p) : 0);
            if (here.get(p)) {
                scores.set(p, scores.get(p) + ranks.get(p) - 1);
            }
        }
        bookedRanks.add(ranks);
        bookedPlans.add(new ArrayList<>(plan));
        for (int p = 0; p < plan.size(); p++) {
            plan.set(p, NONE);
        }
        return 1;
    }

    int year(int y, int p) {
        if (y < 0 || y >= bookedRanks.size() || !isPupil(p)) {
            return NONE;
        }
        return p < bookedRanks.get(y).size() ? bookedRanks.get(y).get(p) : 0;
    }

    int undo() {
        if (bookedPlans.isEmpty()) {
            return NONE;
        }
        List<Integer> then = bookedPlans.remove(bookedPlans.size() - 1);
        List<Integer> ranks = bookedRanks.remove(bookedRanks.size() - 1);
        for (int p = 0; p < plan.size(); p++) {
            plan.set(p, p < then.size() ? then.get(p) : NONE);
            if (p < ranks.size() && ranks.get(p) > 0) {
                scores.set(p, scores.get(p) - (ranks.get(p) - 1));
            }
        }
        return bookedPlans.size();
    }

    int row(int i) {
        if (i < 0 || i >= row.size()) {
            throw new NoSuchElementException();
        }
        return row.get(i);
    }
}
