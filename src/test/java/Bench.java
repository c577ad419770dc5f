import java.util.ArrayList;
import java.util.List;
import java.util.NoSuchElementException;
import java.util.function.Consumer;
import java.util.function.Supplier;

/** What tests by hand share: objects to begin with, and looks at what they answer. */
abstract class Bench {
    static final int NONE = -1;
    static final int LEAST_INT = Integer.MIN_VALUE;
    static final int MOST_INT = Integer.MAX_VALUE;
    private static final int THROWN = -99;

    final Checks checks;
    /** Stands ahead of each row's text: the case that is under way. */
    String now = "";

    Bench(Checks checks) {
        this.checks = checks;
    }

    final void due(String what, long got, long want) {
        checks.same(now + what, got, want);
    }

    final void yes(String what, boolean got) {
        checks.same(now + what, got, true);
    }

    final void no(String what, boolean got) {
        checks.same(now + what, got, false);
    }

    final void noOf(WishSharer x, int pupil, int what) {
        due("of(" + pupil + ", " + what + ") throws", ofOrThrown(x, pupil, what), THROWN);
    }

    final void noRow(WishSharer x, int i) {
        due("row(" + i + ") throws", rowOrThrown(x, i), THROWN);
    }

    private static int ofOrThrown(WishSharer x, int pupil, int what) {
        try {
            return x.of(pupil, what);
        } catch (NoSuchElementException e) {
            return THROWN;
        }
    }

    private static int rowOrThrown(WishSharer x, int i) {
        try {
            return x.row(i);
        } catch (NoSuchElementException e) {
            return THROWN;
        }
    }

    // ---- objects to begin with

    /** So many PUPILS without SKILLS. */
    static WishSharer withPupils(int pupils) {
        WishSharer x = new WishSharer();
        for (int p = 0; p < pupils; p++) {
            x.pupil(0);
        }
        return x;
    }

    /** So many PUPILS without SKILLS, so many plain PROJECTS of a size from 1 to the most. */
    static WishSharer with(int pupils, int projects, int most) {
        WishSharer x = withPupils(pupils);
        for (int q = 0; q < projects; q++) {
            x.project(0, 1, most, 0, 0);
        }
        return x;
    }

    /** Some of everything: four PUPILS, four PROJECTS, one of each KIND, a year, a ROW, a PLAN that is RIGHT. */
    static WishSharer some() {
        WishSharer x = new WishSharer();
        x.pupil(1);
        x.pupil(2);
        x.pupil(4);
        x.pupil(255);
        x.project(0, 1, 2, 0, 0);
        x.project(1, 2, 4, 1, 0);
        x.project(2, 1, 1, 2, 0);
        x.project(3, 1, 3, 0, 3);
        wishAll(x, 0, 1, 0, 2);
        wishAll(x, 1, 2, 0);
        wishAll(x, 2, 0, 1, 3, 2);
        wishAll(x, 3, 3, 1);
        x.friends(0, 2, true);
        x.friends(1, 3, true);
        x.apart(0, 1, true);
        x.lots(3);
        x.best();
        x.book();
        // PUPILS 0 and 2 would change places.
        putAll(x, 0, 2, 1, 1);
        x.swap();
        return x;
    }

    /** All that there may be, but for years: eight PUPILS, five PROJECTS, full rows of WISHES, a ROW. */
    static WishSharer full() {
        WishSharer x = withPupils(8);
        x.project(0, 1, 3, 0, 0);
        x.project(1, 2, 4, 0, 0);
        x.project(2, 1, 2, 0, 0);
        x.project(3, 1, 3, 0, 7);
        x.project(0, 2, 8, 0, 0);
        for (int p = 0; p < 8; p++) {
            x.wishes(p, 1, 5, p % 2 == 0 ? 0 : 4, p % 2 == 0 ? 1 : -1);
            x.friends(p, (p + 3) % 8, true);
        }
        x.apart(6, 7, true);
        x.best();
        x.book();
        putAll(x, 4, 0, 4, 4, 4, 4, 4, 4);
        x.apart(6, 7, false);
        x.swap();
        x.apart(6, 7, true);
        return x;
    }

    /** Two PUPILS, two places that both like alike, three PROJECTS that are not OFFERED; PUPIL 1 may lie. */
    static WishSharer whereARowOfFivePays() {
        WishSharer x = with(2, 5, 1);
        wishAll(x, 0, 0, 1);
        wishAll(x, 1, 0, 1);
        for (int q = 2; q < 5; q++) {
            x.offered(q, false);
        }
        return x;
    }

    static void wishAll(WishSharer x, int pupil, int... projects) {
        for (int q : projects) {
            x.wish(pupil, q);
        }
    }

    static void putAll(WishSharer x, int... projects) {
        for (int p = 0; p < projects.length; p++) {
            x.put(p, projects[p]);
        }
    }

    /** One PROJECT for so many PUPILS. */
    static void putEach(WishSharer x, int pupils, int project) {
        for (int p = 0; p < pupils; p++) {
            x.put(p, project);
        }
    }

    // ---- looks at an object

    final void planIs(String when, WishSharer x, int... projects) {
        for (int p = 0; p < projects.length; p++) {
            due(when + " of(" + p + ", 4)", x.of(p, 4), projects[p]);
        }
    }

    final void wishesAre(String when, WishSharer x, int pupil, int... projects) {
        due(when + " of(" + pupil + ", 2)", x.of(pupil, 2), projects.length);
        for (int i = 0; i < projects.length; i++) {
            due(when + " rank(" + pupil + ", " + projects[i] + ")", x.rank(pupil, projects[i]), i + 1);
        }
    }

    final void rowIs(String when, WishSharer x, int... numbers) {
        due(when + " count(4)", x.count(4), numbers.length);
        for (int i = 0; i < numbers.length; i++) {
            due(when + " row(" + i + ")", x.row(i), numbers[i]);
        }
        noRow(x, numbers.length);
    }

    /** That refused calls change nothing: an object that had them answers all that follows like one that had not. */
    final void changesNothing(Supplier<WishSharer> begin, Consumer<WishSharer> refused) {
        WishSharer without = begin.get();
        WishSharer with = begin.get();
        refused.accept(with);
        List<Integer> due = shown(without);
        List<Integer> got = shown(with);
        due("later answers", got.size(), due.size());
        for (int i = 0; i < due.size() && i < got.size(); i++) {
            due("later answer " + i, got.get(i), due.get(i));
        }
    }

    /** What an object shows, first by calls that only look, then by those that change it. */
    private static List<Integer> shown(WishSharer x) {
        List<Integer> all = new ArrayList<>();
        addLooks(x, all);
        for (int p = 0; p < x.count(0); p += 3) {
            all.add(x.lie(p));
            addRow(x, all);
        }
        all.add(x.swap());
        addRow(x, all);
        all.add(x.change());
        addPlan(x, all);
        all.add(x.undo());
        addPlan(x, all);
        all.add(x.best());
        addPlan(x, all);
        all.add(x.book());
        all.add(x.pupil(0));
        all.add(x.project(0, 1, 1, 0, 0));
        for (int p = 0; p < x.count(0); p++) {
            all.add(ofOrThrown(x, p, 3));
            all.add(ofOrThrown(x, p, 6));
        }
        return all;
    }

    private static void addLooks(WishSharer x, List<Integer> all) {
        for (int what = 0; what <= 5; what++) {
            all.add(x.count(what));
        }
        addRow(x, all);
        for (int p = 0; p < x.count(0); p++) {
            for (int what = 0; what <= 6; what++) {
                all.add(ofOrThrown(x, p, what));
            }
            for (int q = 0; q < x.count(1); q++) {
                all.add(x.rank(p, q));
            }
            all.add(x.year(0, p));
        }
        all.add(x.wrong());
        all.add(x.plans(0));
        all.add(x.plans(1));
        for (int what = 1; what <= 9; what++) {
            all.add(x.worth(what));
        }
    }

    private static void addRow(WishSharer x, List<Integer> all) {
        for (int i = 0; i < x.count(4); i++) {
            all.add(rowOrThrown(x, i));
        }
    }

    private static void addPlan(WishSharer x, List<Integer> all) {
        for (int p = 0; p < x.count(0); p++) {
            all.add(ofOrThrown(x, p, 4));
        }
    }
}
