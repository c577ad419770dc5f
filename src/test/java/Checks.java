/** Counts answers that are not as due, and prints them. */
final class Checks {
    private final String title;
    private int asked;
    private int wrong;

    Checks(String title) {
        this.title = title;
    }

    void same(String what, long got, long due) {
        asked++;
        if (got != due) {
            wrong++;
            System.out.println(title + ": " + what + " answered " + got + ", due is " + due);
        }
    }

    void same(String what, boolean got, boolean due) {
        same(what, got ? 1 : 0, due ? 1 : 0);
    }

    boolean failed() {
        return wrong > 0;
    }

    void end() {
        System.out.println(title + ": " + asked + " answers, " + wrong + " not as due");
        if (wrong > 0) {
            System.exit(1);
        }
    }
}
