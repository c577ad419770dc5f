import java.util.NoSuchElementException;

/** Counts answers that are not as due, and prints them. */
final class Checks {
    private final String title;
    private int asked;
    private int wrong;

    Checks(String title) {
        this.title = title;
    }

    void same(String what, long got, long due) {
        asked++;
        if (got != due) {
            wrong++;
            System.out.println(title + ": " + what + " answered " + got + ", due is " + due);
        }
    }

    void same(String what, boolean got, boolean due) {
        same(what, got ? 1 : 0, due ? 1 : 0);
    }

    void noOf(WishSharer x, int pupil, int what) {
        boolean thrown = false;
        try {
            x.of(pupil, what);
        } catch (NoSuchElementException e) {
            thrown = true;
        }
        same("of(" + pupil + ", " + what + ") throws", thrown, true);
    }

    void noRow(WishSharer x, int i) {
        boolean thrown = false;
        try {
            x.row(i);
        } catch (NoSuchElementException e) {
            thrown = true;
        }
        same("row(" + i + ") throws", thrown, true);
    }

    boolean failed() {
        return wrong > 0;
    }

    void end() {
        System.out.println(title + ": " + asked + " answers, " + wrong + " not as due");
        if (wrong > 0) {
            System.exit(1);
        }
    }
}
