import java.util.NoSuchElementException;
import java.util.Random;

/** Random runs of calls, each answer held against the Model's. */
public final class ModelTest {
    private static final int CALLS = 512;
    private static final int NO_SUCH = Integer.MIN_VALUE;
    private static final int[] ODD = {-2, -1, 5, 6, 7, 8, 9, 31, 32, 33, 255, 256, -255, -256, 1 << 30, -(1 << 30),
        Integer.MAX_VALUE, Integer.MAX_VALUE - 1, Integer.MIN_VALUE, Integer.MIN_VALUE + 1};

    private final Checks checks;
    private final Random random;
    private final WishSharer x = new WishSharer();
    private final Model m = new Model();
    private final StringBuilder story = new StringBuilder();
    private final int mostPupils;
    private final int mostProjects;
    /** Most PUPILS have long rows of WISHES, few PROJECTS have conditions: so there is more to share out. */
    private final boolean lively;
    private int calls;

    private ModelTest(Checks checks, long seed, int mostPupils, int mostProjects) {
        this.lively = seed % 2 == 1;
        this.checks = checks;
        this.random = new Random(seed);
        this.mostPupils = mostPupils;
        this.mostProjects = mostProjects;
    }

    public static void main(String[] args) {
        int runs = args.length > 0 ? Integer.parseInt(args[0]) : 2000;
        long first = args.length > 1 ? Long.parseLong(args[1]) : 0;
        Checks checks = new Checks("ModelTest");
        for (long seed = first; seed < first + runs && !checks.failed(); seed++) {
            boolean large = seed % 60 == 59;
            int pupils = large ? 8 : 2 + (int) (seed % 5);
            int projects = large ? 5 : 1 + (int) (seed % 7 * 3) % 5;
            new ModelTest(checks, seed, pupils, projects).run(large ? 130 : CALLS);
        }
        checks.end();
    }

    private void run(int length) {
        begin();
        while (calls < length && !checks.failed()) {
            step();
        }
        if (checks.failed()) {
            System.out.println(story);
        }
    }

    private void begin() {
        int pupils = lively ? mostPupils : random.nextInt(mostPupils) + 1;
        for (int i = 0; i < pupils; i++) {
            addPupil();
        }
        int projects = lively ? mostProjects : random.nextInt(mostProjects) + 1;
        for (int i = 0; i < projects; i++) {
            addProject();
        }
        for (int p = 0; p < pupils; p++) {
            int rows = lively ? 5 : random.nextInt(4);
            for (int i = 0; i < rows; i++) {
                wish(p, random.nextInt(mostProjects));
            }
        }
    }

    private void addPupil() {
        int skills = random.nextInt(20) == 0 ? odd() : random.nextInt(256);
        if (m.count(0) < mostPupils || mostPupils == 8 || skills < 0 || skills > 255) {
            same("pupil(" + skills + ")", x.pupil(skills), m.pupil(skills));
        }
    }

    private void addProject() {
        if (m.count(1) >= mostProjects && mostProjects < 5) {
            return;
        }
        if (lively && random.nextInt(4) > 0) {
            int size = 1 + random.nextInt(3);
            int twice = random.nextInt(4) == 0 ? 2 : 0;
            same("project(" + twice + ", 1, " + size + ", 0, 0)", x.project(twice, 1, size, 0, 0), m.project(twice, 1, size, 0, 0));
            return;
        }
        int kind = random.nextInt(20) == 0 ? odd() : random.nextInt(4);
        int least = random.nextInt(20) == 0 ? odd() : 1 + random.nextInt(2);
        int most = random.nextInt(20) == 0 ? odd() : least + random.nextInt(4);
        int skills = random.nextInt(3) == 0 ? 1 << random.nextInt(8) : random.nextInt(10) == 0 ? odd() : 0;
        int leader = random.nextInt(10) == 0 ? odd() : random.nextInt(Math.max(1, m.count(0)));
        same("project(" + kind + ", " + least + ", " + most + ", " + skills + ", " + leader + ")",
            x.project(kind, least, most, skills, leader), m.project(kind, least, most, skills, leader));
    }

    private void wish(int p, int q) {
        same("wish(" + p + ", " + q + ")", x.wish(p, q), m.wish(p, q));
    }

    private int odd() {
        return ODD[random.nextInt(ODD.length)];
    }

    private int somePupil() {
        return random.nextInt(12) == 0 ? odd() : random.nextInt(Math.max(1, m.count(0)));
    }

    private int someProject() {
        return random.nextInt(12) == 0 ? odd() : random.nextInt(Math.max(1, m.count(1)));
    }

    private void step() {
        int kind = random.nextInt(100);
        if (kind < 2) {
            addPupil();
        } else if (kind < 4) {
            addProject();
        } else if (kind < 42) {
            changeSomething(kind);
        } else if (kind < 58) {
            askSomething(kind);
        } else {
            planSomething(kind);
        }
    }

    private void changeSomething(int kind) {
        int p = somePupil();
        int q = someProject();
        int other = somePupil();
        boolean is = random.nextInt(3) > 0;
        if (kind < 9) {
            wish(p, q);
        } else if (kind < 15) {
            changeSheet(p);
        } else if (kind < 19) {
            same("friends(" + p + ", " + other + ", " + is + ")", x.friends(p, other, is), m.friends(p, other, is));
        } else if (kind < 22) {
            boolean are = random.nextInt(lively ? 6 : 3) == 0;
            same("apart(" + p + ", " + other + ", " + are + ")", x.apart(p, other, are), m.apart(p, other, are));
        } else if (kind < 24 || kind < 26 && !lively) {
            same("here(" + p + ", " + is + ")", x.here(p, is), m.here(p, is));
        } else if (kind < 26 || kind < 29 && !lively) {
            same("offered(" + q + ", " + is + ")", x.offered(q, is), m.offered(q, is));
        } else if (kind < 32) {
            int seed = random.nextInt();
            same("lots(" + seed + ")", x.lots(seed), m.lots(seed));
            sweep(6);
        } else if (kind < 34) {
            for (int all = 0; all < m.count(0); all++) {
                int to = someProject();
                same("put(" + all + ", " + to + ")", x.put(all, to), m.put(all, to));
            }
        } else {
            int to = random.nextInt(10) == 0 ? -1 : q;
            same("put(" + p + ", " + to + ")", x.put(p, to), m.put(p, to));
        }
    }

    private void changeSheet(int p) {
        int kind = random.nextInt(15) == 0 ? random.nextInt(6) - 1 : random.nextInt(2);
        int n = random.nextInt(8) == 0 ? random.nextInt(3) == 0 ? odd() : random.nextInt(30) - 4 : 1 + random.nextInt(6);
        int f = random.nextInt(5) == 0 ? random.nextInt(4) * 256 + random.nextInt(4) : random.nextInt(5);
        int step = random.nextInt(8) == 0 ? random.nextInt() : random.nextInt(5) - 2 + 256 * random.nextInt(2);
        if (lively && random.nextInt(2) == 0) {
            same("wishes(" + p + ", 2, 0, 0, 0)", x.wishes(p, 2, 0, 0, 0), m.wishes(p, 2, 0, 0, 0));
            for (int i = 0; i < 4; i++) {
                wish(p, random.nextInt(mostProjects));
            }
            return;
        }
        same("wishes(" + p + ", " + kind + ", " + n + ", " + f + ", " + step + ")",
            x.wishes(p, kind, n, f, step), m.wishes(p, kind, n, f, step));
    }

    private void askSomething(int kind) {
        int what = random.nextInt(10) == 0 ? odd() : random.nextInt(9) - 1;
        if (kind < 45) {
            same("count(" + what + ")", x.count(what), m.count(what));
        } else if (kind < 49) {
            askOf(somePupil(), what);
        } else if (kind < 53) {
            int p = somePupil();
            int q = someProject();
            same("rank(" + p + ", " + q + ")", x.rank(p, q), m.rank(p, q));
        } else if (kind < 56) {
            int y = random.nextInt(10) == 0 ? odd() : random.nextInt(m.count(3) + 2) - 1;
            int p = somePupil();
            same("year(" + y + ", " + p + ")", x.year(y, p), m.year(y, p));
        } else {
            askRow(random.nextInt(5) == 0 ? odd() : random.nextInt(6));
        }
    }

    private void askOf(int p, int what) {
        int got = NO_SUCH;
        int due = NO_SUCH;
        try {
            got = x.of(p, what);
        } catch (NoSuchElementException e) {
            got = NO_SUCH;
        }
        try {
            due = m.of(p, what);
        } catch (NoSuchElementException e) {
            due = NO_SUCH;
        }
        same("of(" + p + ", " + what + ")", got, due);
    }

    private void askRow(int i) {
        int got = NO_SUCH;
        int due = NO_SUCH;
        try {
            got = x.row(i);
        } catch (NoSuchElementException e) {
            got = NO_SUCH;
        }
        try {
            due = m.row(i);
        } catch (NoSuchElementException e) {
            due = NO_SUCH;
        }
        same("row(" + i + ")", got, due);
    }

    private void planSomething(int kind) {
        if (kind < 64) {
            same("wrong()", x.wrong(), m.wrong());
        } else if (kind < 69) {
            same("best()", x.best(), m.best());
            sweep(4);
        } else if (kind < 73) {
            int what = random.nextInt(10) == 0 ? odd() : random.nextInt(2);
            same("plans(" + what + ")", x.plans(what), m.plans(what));
        } else if (kind < 79) {
            int what = random.nextInt(10) == 0 ? odd() : random.nextInt(11);
            same("worth(" + what + ")", x.worth(what), m.worth(what));
        } else if (kind < 84) {
            same("swap()", x.swap(), m.swap());
            sweepRow();
        } else if (kind < 88) {
            same("change()", x.change(), m.change());
            sweep(4);
        } else if (kind < 92) {
            int p = somePupil();
            same("lie(" + p + ")", x.lie(p), m.lie(p));
            sweepRow();
        } else if (kind < 97) {
            same("book()", x.book(), m.book());
            sweep(3);
        } else {
            same("undo()", x.undo(), m.undo());
            sweep(3);
            sweep(4);
        }
    }

    private void sweep(int what) {
        for (int p = 0; p < m.count(0); p++) {
            askOf(p, what);
        }
    }

    private void sweepRow() {
        same("count(4)", x.count(4), m.count(4));
        for (int i = 0; i < m.count(4); i++) {
            askRow(i);
        }
    }

    private void same(String call, long got, long due) {
        calls++;
        story.append(call).append(" -> ").append(due).append('\n');
        checks.same(call, got, due);
    }

    private void same(String call, boolean got, boolean due) {
        same(call, got ? 1 : 0, due ? 1 : 0);
    }
}
