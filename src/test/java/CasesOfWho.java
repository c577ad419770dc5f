import java.util.Arrays;

/** Cases of promises 1 to 13, who and what: a case a sentence, told by its name. */
final class CasesOfWho extends Bench {
    private static final int[] BEGINNINGS =
        {-1, 0, 1, 2, 3, 4, 5, 255, 256, 257, -252, MOST_INT, LEAST_INT, LEAST_INT + 2};
    private static final int[] STEPS =
        {-5, -3, -2, -1, 0, 1, 2, 3, 4, 5, 255, 256, 257, -255, MOST_INT, LEAST_INT, LEAST_INT + 1};

    CasesOfWho(Checks checks) {
        super(checks);
    }

    // ---- 1: A new object

    void p01_noPupils() {
        WishSharer x = new WishSharer();
        due("count(0)", x.count(0), 0);
        due("count(2)", x.count(2), 0);
        noOf(x, 0, 0);
        due("rank(0, 0)", x.rank(0, 0), NONE);
        no("put(0, -1)", x.put(0, NONE));
        no("here(0, true)", x.here(0, true));
    }

    void p01_noProjects() {
        WishSharer x = new WishSharer();
        due("count(1)", x.count(1), 0);
        due("count(5)", x.count(5), 0);
        no("offered(0, true)", x.offered(0, true));
        x.pupil(0);
        due("wish(0, 0)", x.wish(0, 0), NONE);
        no("put(0, 0)", x.put(0, 0));
    }

    void p01_year0() {
        WishSharer x = new WishSharer();
        due("count(3)", x.count(3), 0);
        due("year(0, 0)", x.year(0, 0), NONE);
        due("undo()", x.undo(), NONE);
    }

    void p01_objectsAreApart() {
        WishSharer x = some();
        WishSharer y = new WishSharer();
        due("count(0) of the other", y.count(0), 0);
        y.pupil(9);
        due("of(0, 0) of the first", x.of(0, 0), 1);
    }

    // ---- 2: pupil

    void p02_itsNumber_refusedOnesTakeNone() {
        WishSharer x = new WishSharer();
        due("the first", x.pupil(3), 0);
        due("refused", x.pupil(256), NONE);
        due("the second", x.pupil(4), 1);
        due("of(0, 0)", x.of(0, 0), 3);
        due("of(1, 0)", x.of(1, 0), 4);
    }

    void p02_skills_0And255Taken() {
        WishSharer x = new WishSharer();
        due("pupil(0)", x.pupil(0), 0);
        due("pupil(255)", x.pupil(255), 1);
        due("of(0, 0)", x.of(0, 0), 0);
        due("of(1, 0)", x.of(1, 0), 255);
    }

    void p02_skills_minus1And256Refused() {
        WishSharer x = new WishSharer();
        due("pupil(-1)", x.pupil(-1), NONE);
        due("pupil(256)", x.pupil(256), NONE);
        due("pupil(least)", x.pupil(LEAST_INT), NONE);
        due("pupil(most)", x.pupil(MOST_INT), NONE);
        due("count(0)", x.count(0), 0);
    }

    void p02_eighthTaken_ninthRefused() {
        WishSharer x = new WishSharer();
        for (int p = 0; p < 8; p++) {
            due("PUPIL " + p, x.pupil(p), p);
        }
        due("a ninth", x.pupil(0), NONE);
        due("one more", x.pupil(0), NONE);
        due("count(0)", x.count(0), 8);
    }

    void p02_isHere() {
        WishSharer x = withPupils(8);
        for (int p = 0; p < 8; p++) {
            due("of(" + p + ", 1)", x.of(p, 1), 1);
        }
    }

    void p02_withoutWishes() {
        WishSharer x = with(8, 1, 1);
        for (int p = 0; p < 8; p++) {
            due("of(" + p + ", 2)", x.of(p, 2), 0);
        }
    }

    void p02_theLastByLots_afterAnyLots() {
        WishSharer x = new WishSharer();
        for (int p = 0; p < 8; p++) {
            x.lots(p * 77);
            x.pupil(0);
            due("of(" + p + ", 6)", x.of(p, 6), p);
        }
    }

    void p02_refusedChangesNothing() {
        changesNothing(Bench::some, x -> {
            x.pupil(-1);
            x.pupil(256);
        });
    }

    void p02_refusedWhenFullChangesNothing() {
        changesNothing(Bench::full, x -> {
            x.pupil(0);
            x.pupil(255);
            x.pupil(-1);
        });
    }

    // ---- 3: project

    private static WishSharer withOnePupil() {
        return withPupils(1);
    }

    void p03_itsNumber_refusedOnesTakeNone() {
        WishSharer x = withOnePupil();
        due("the first", x.project(0, 1, 1, 0, 0), 0);
        due("refused", x.project(0, 2, 1, 0, 0), NONE);
        due("the second", x.project(0, 2, 2, 0, 0), 1);
        x.put(0, 0);
        due("one in the first", x.wrong(), 0);
        x.put(0, 1);
        due("one in the second", x.wrong(), 41);
    }

    void p03_kind_0To3Taken() {
        WishSharer x = withOnePupil();
        for (int kind = 0; kind <= 3; kind++) {
            due("KIND " + kind, x.project(kind, 1, 1, 0, 0), kind);
        }
    }

    void p03_kind_minus1And4Refused() {
        WishSharer x = withOnePupil();
        due("KIND -1", x.project(-1, 1, 1, 0, 0), NONE);
        due("KIND 4", x.project(4, 1, 1, 0, 0), NONE);
        due("KIND least", x.project(LEAST_INT, 1, 1, 0, 0), NONE);
        due("KIND most", x.project(MOST_INT, 1, 1, 0, 0), NONE);
        due("count(1)", x.count(1), 0);
    }

    void p03_least_1Taken_0Refused() {
        for (int kind = 0; kind <= 3; kind++) {
            WishSharer x = withOnePupil();
            due("LEAST 0", x.project(kind, 0, 8, 0, 0), NONE);
            due("LEAST -1", x.project(kind, -1, 8, 0, 0), NONE);
            due("LEAST least", x.project(kind, LEAST_INT, 8, 0, 0), NONE);
            due("LEAST 1", x.project(kind, 1, 8, 0, 0), 0);
        }
    }

    void p03_most_8Taken_9Refused() {
        for (int kind = 0; kind <= 3; kind++) {
            WishSharer x = withOnePupil();
            due("MOST 9", x.project(kind, 8, 9, 0, 0), NONE);
            due("MOST most", x.project(kind, 1, MOST_INT, 0, 0), NONE);
            due("both 9", x.project(kind, 9, 9, 0, 0), NONE);
            due("MOST 8", x.project(kind, 8, 8, 0, 0), 0);
        }
    }

    void p03_leastAsMostTaken_leastAboveMostRefused() {
        for (int size = 1; size <= 5; size++) {
            WishSharer x = withOnePupil();
            due("one above", x.project(0, size + 1, size, 0, 0), NONE);
            due("alike", x.project(0, size, size, 0, 0), 0);
        }
        WishSharer y = withOnePupil();
        due("8 above 1", y.project(0, 8, 1, 0, 0), NONE);
        due("1 above 0", y.project(0, 1, 0, 0, 0), NONE);
        due("1 above least", y.project(0, 1, LEAST_INT, 0, 0), NONE);
    }

    void p03_skills_0And255Taken() {
        WishSharer x = withOnePupil();
        due("0", x.project(0, 1, 1, 0, 0), 0);
        due("255", x.project(0, 1, 1, 255, 0), 1);
    }

    void p03_skills_minus1And256Refused() {
        WishSharer x = withOnePupil();
        due("-1", x.project(0, 1, 1, -1, 0), NONE);
        due("256", x.project(0, 1, 1, 256, 0), NONE);
        due("least", x.project(0, 1, 1, LEAST_INT, 0), NONE);
        due("most", x.project(0, 1, 1, MOST_INT, 0), NONE);
        due("count(1)", x.count(1), 0);
    }

    void p03_leader_firstAndLastPupilTaken() {
        WishSharer x = withPupils(8);
        due("LEADER 0", x.project(3, 1, 1, 0, 0), 0);
        due("LEADER 7", x.project(3, 1, 1, 0, 7), 1);
    }

    void p03_leader_noneRefused() {
        WishSharer x = new WishSharer();
        due("no PUPILS", x.project(3, 1, 1, 0, 0), NONE);
        x.pupil(0);
        due("LEADER -1", x.project(3, 1, 1, 0, NONE), NONE);
        due("LEADER 1 of one", x.project(3, 1, 1, 0, 1), NONE);
        due("LEADER least", x.project(3, 1, 1, 0, LEAST_INT), NONE);
        due("LEADER most", x.project(3, 1, 1, 0, MOST_INT), NONE);
        due("LEADER 0", x.project(3, 1, 1, 0, 0), 0);
    }

    void p03_leader_8OfEightRefused() {
        WishSharer x = withPupils(8);
        due("LEADER 8", x.project(3, 1, 1, 0, 8), NONE);
        due("count(1)", x.count(1), 0);
    }

    void p03_leader_oneThatIsNotHereIsOne() {
        WishSharer x = withPupils(2);
        x.here(1, false);
        due("project()", x.project(3, 1, 2, 0, 1), 0);
        x.put(0, 0);
        due("it leads nobody", x.wrong(), 50);
    }

    void p03_leader_ofOtherKindsDoesNotMatter() {
        int[] leaders = {NONE, 0, 8, 32, LEAST_INT, MOST_INT};
        for (int kind = 0; kind <= 2; kind++) {
            for (int leader : leaders) {
                WishSharer x = new WishSharer();
                due("KIND " + kind + ", LEADER " + leader, x.project(kind, 2, 2, 0, leader), 0);
                x.pupil(0);
                x.pupil(0);
                due("a PLAN", x.best(), 1);
            }
        }
    }

    void p03_fifthTaken_sixthRefused() {
        WishSharer x = new WishSharer();
        for (int q = 0; q < 5; q++) {
            due("PROJECT " + q, x.project(0, 1, 1, 0, 0), q);
        }
        due("a sixth", x.project(0, 1, 1, 0, 0), NONE);
        due("one more", x.project(1, 2, 4, 7, 0), NONE);
        due("count(1)", x.count(1), 5);
    }

    void p03_isOffered() {
        WishSharer x = with(1, 5, 1);
        due("count(5)", x.count(5), 5);
        for (int q = 0; q < 5; q++) {
            x.put(0, q);
            due("wrong() in " + q, x.wrong(), 0);
        }
    }

    void p03_refusedChangesNothing() {
        changesNothing(Bench::some, x -> {
            x.project(4, 1, 1, 0, 0);
            x.project(0, 0, 1, 0, 0);
            x.project(0, 1, 9, 0, 0);
            x.project(0, 2, 1, 0, 0);
            x.project(0, 1, 1, 256, 0);
            x.project(3, 1, 1, 0, 4);
        });
    }

    void p03_refusedWhenFullChangesNothing() {
        changesNothing(Bench::full, x -> {
            x.project(0, 1, 8, 0, 0);
            x.project(3, 8, 8, 255, 0);
        });
    }

    // ---- 4: wish

    void p04_behindTheOthers_howMany() {
        WishSharer x = with(2, 4, 1);
        due("wish(0, 2)", x.wish(0, 2), 1);
        due("wish(1, 3)", x.wish(1, 3), 1);
        due("wish(0, 0)", x.wish(0, 0), 2);
        due("wish(0, 3)", x.wish(0, 3), 3);
        wishesAre("0", x, 0, 2, 0, 3);
        wishesAre("1", x, 1, 3);
        x.wishes(1, 1, 2, 1, 1);
        due("behind those of a sheet", x.wish(1, 0), 3);
        wishesAre("1", x, 1, 1, 2, 0);
    }

    void p04_pupil_firstAndLastTaken() {
        WishSharer x = with(8, 1, 1);
        due("wish(0, 0)", x.wish(0, 0), 1);
        due("wish(7, 0)", x.wish(7, 0), 1);
    }

    void p04_pupil_oneBelowAndOneAboveRefused() {
        WishSharer x = with(2, 1, 1);
        due("wish(-1, 0)", x.wish(-1, 0), NONE);
        due("wish(2, 0)", x.wish(2, 0), NONE);
        due("wish(least, 0)", x.wish(LEAST_INT, 0), NONE);
        due("wish(most, 0)", x.wish(MOST_INT, 0), NONE);
        WishSharer y = with(8, 1, 1);
        due("wish(8, 0)", y.wish(8, 0), NONE);
    }

    void p04_project_firstAndLastTaken() {
        WishSharer x = with(1, 5, 1);
        due("wish(0, 4)", x.wish(0, 4), 1);
        due("wish(0, 0)", x.wish(0, 0), 2);
        wishesAre("both", x, 0, 4, 0);
    }

    void p04_project_oneBelowAndOneAboveRefused() {
        WishSharer x = with(1, 2, 1);
        due("wish(0, -1)", x.wish(0, -1), NONE);
        due("wish(0, 2)", x.wish(0, 2), NONE);
        due("wish(0, least)", x.wish(0, LEAST_INT), NONE);
        due("wish(0, most)", x.wish(0, MOST_INT), NONE);
        WishSharer y = with(1, 5, 1);
        due("wish(0, 5)", y.wish(0, 5), NONE);
    }

    void p04_thereAlreadyRefused() {
        WishSharer x = with(1, 3, 1);
        wishAll(x, 0, 2, 0, 1);
        due("the first", x.wish(0, 2), NONE);
        due("the second", x.wish(0, 0), NONE);
        due("the last", x.wish(0, 1), NONE);
        wishesAre("they stay", x, 0, 2, 0, 1);
    }

    void p04_fifthTaken_thenFull() {
        WishSharer x = with(1, 5, 1);
        for (int q = 0; q < 5; q++) {
            due("wish(0, " + q + ")", x.wish(0, q), q + 1);
        }
        for (int q = 0; q < 5; q++) {
            due("again wish(0, " + q + ")", x.wish(0, q), NONE);
        }
        wishesAre("full", x, 0, 0, 1, 2, 3, 4);
    }

    void p04_ofOneNotHereAndOneNotOfferedTaken() {
        WishSharer x = with(1, 1, 1);
        x.here(0, false);
        x.offered(0, false);
        due("wish(0, 0)", x.wish(0, 0), 1);
    }

    void p04_refusedChangesNothing() {
        changesNothing(Bench::some, x -> {
            x.wish(-1, 0);
            x.wish(4, 0);
            x.wish(0, -1);
            x.wish(0, 4);
            x.wish(0, 1);
            x.wish(2, 2);
        });
    }

    // ---- 5: wishes

    /** The entries of a sheet in longs, cut to their bits by arithmetic. */
    private static int[] rowOf(int kind, int n, int f, int step, int projects) {
        int[] row = new int[projects];
        int length = 0;
        for (int i = 0; i < n; i++) {
            long bits = kind == 0 ? 256 : 1L << 32;
            long entry = Math.floorMod(f + (long) i * step, bits);
            long project = entry >= bits / 2 ? entry - bits : entry;
            boolean was = false;
            for (int k = 0; k < length; k++) {
                was |= row[k] == project;
            }
            if (project < 0 || project >= projects || was) {
                break;
            }
            row[length++] = (int) project;
        }
        return Arrays.copyOf(row, length);
    }

    private void rowsAreTaken(int kind, int projects) {
        for (int f : BEGINNINGS) {
            for (int step : STEPS) {
                WishSharer x = with(1, projects, 1);
                for (int n = 0; n <= 20; n += n < 7 ? 1 : 13) {
                    int[] row = rowOf(kind, n, f, step, projects);
                    String what = "wishes(0, " + kind + ", " + n + ", " + f + ", " + step + ") of " + projects;
                    due(what, x.wishes(0, kind, n, f, step), row.length);
                    wishesAre(what, x, 0, row);
                }
            }
        }
    }

    void p05_bytes_fThenAStepMoreEach() {
        for (int projects = 0; projects <= 5; projects++) {
            rowsAreTaken(0, projects);
        }
    }

    void p05_ints_fThenAStepMoreEach() {
        for (int projects = 0; projects <= 5; projects++) {
            rowsAreTaken(1, projects);
        }
    }

    void p05_n_0Taken_noWishesThen() {
        WishSharer x = with(1, 5, 1);
        for (int kind = 0; kind <= 1; kind++) {
            wishAll(x, 0, 3, 4);
            due("KIND " + kind, x.wishes(0, kind, 0, 0, 1), 0);
            wishesAre("KIND " + kind, x, 0);
            due("its old one", x.rank(0, 3), 6);
        }
    }

    void p05_n_1TakesOneEntry() {
        WishSharer x = with(1, 5, 1);
        due("bytes", x.wishes(0, 0, 1, 4, -1), 1);
        wishesAre("bytes", x, 0, 4);
        due("ints", x.wishes(0, 1, 1, 3, -1), 1);
        wishesAre("ints", x, 0, 3);
    }

    void p05_n_20Taken_21Refused() {
        WishSharer x = with(1, 5, 1);
        for (int kind = 0; kind <= 1; kind++) {
            due("20", x.wishes(0, kind, 20, 4, -1), 5);
            wishesAre("20", x, 0, 4, 3, 2, 1, 0);
            due("21", x.wishes(0, kind, 21, 0, 1), NONE);
            due("most", x.wishes(0, kind, MOST_INT, 0, 1), NONE);
            wishesAre("they stay", x, 0, 4, 3, 2, 1, 0);
        }
    }

    void p05_n_20Taken_21Refused_ofAMissingRow() {
        WishSharer x = with(1, 2, 1);
        x.wish(0, 1);
        due("21", x.wishes(0, 2, 21, 0, 1), NONE);
        due("most", x.wishes(0, 2, MOST_INT, 0, 1), NONE);
        wishesAre("they stay", x, 0, 1);
        due("20", x.wishes(0, 2, 20, 0, 1), 0);
        wishesAre("none", x, 0);
    }

    void p05_n_below0_wishesStay() {
        WishSharer x = with(1, 3, 1);
        wishAll(x, 0, 2, 1);
        for (int kind = 0; kind <= 1; kind++) {
            due("-1", x.wishes(0, kind, -1, 0, 1), -2);
            due("least", x.wishes(0, kind, LEAST_INT, 0, 1), -2);
            wishesAre("they stay", x, 0, 2, 1);
        }
    }

    void p05_missing_noWishesThen() {
        WishSharer x = with(1, 3, 1);
        for (int n = -1; n <= 1; n++) {
            wishAll(x, 0, 2, 1);
            due("n " + n, x.wishes(0, 2, n, 0, 1), 0);
            wishesAre("n " + n, x, 0);
        }
        x.wish(0, 1);
        due("n least", x.wishes(0, 2, LEAST_INT, 0, 1), 0);
        wishesAre("n least", x, 0);
    }

    void p05_kind_minus1And3Refused() {
        WishSharer x = with(1, 3, 1);
        x.wish(0, 2);
        due("-1", x.wishes(0, -1, 1, 0, 1), NONE);
        due("3", x.wishes(0, 3, 1, 0, 1), NONE);
        due("least", x.wishes(0, LEAST_INT, 1, 0, 1), NONE);
        due("most", x.wishes(0, MOST_INT, 1, 0, 1), NONE);
        wishesAre("they stay", x, 0, 2);
    }

    void p05_pupil_firstAndLastTaken_outsideRefused() {
        WishSharer x = with(8, 2, 1);
        due("0", x.wishes(0, 1, 2, 0, 1), 2);
        due("7", x.wishes(7, 1, 2, 1, -1), 2);
        due("-1", x.wishes(-1, 1, 2, 0, 1), NONE);
        due("8", x.wishes(8, 1, 2, 0, 1), NONE);
        due("least", x.wishes(LEAST_INT, 1, 2, 0, 1), NONE);
        due("most", x.wishes(MOST_INT, 1, 2, 0, 1), NONE);
        wishesAre("0", x, 0, 0, 1);
        wishesAre("7", x, 7, 1, 0);
    }

    void p05_pupil_oneAboveRefused() {
        WishSharer x = with(3, 2, 1);
        due("3 of three", x.wishes(3, 1, 2, 0, 1), NONE);
        due("missing", x.wishes(3, 2, 0, 0, 0), NONE);
    }

    void p05_entries_upToTheFirstThatIsNoProject() {
        WishSharer x = with(1, 5, 1);
        due("-1 first", x.wishes(0, 1, 3, -1, 1), 0);
        wishesAre("none, not the old ones", x, 0);
        due("5 third", x.wishes(0, 1, 20, 3, 1), 2);
        wishesAre("4 is the last", x, 0, 3, 4);
        due("-1 third", x.wishes(0, 1, 20, 1, -1), 2);
        wishesAre("0 is the last", x, 0, 1, 0);
        due("5 first", x.wishes(0, 0, 20, 5, -1), 0);
    }

    void p05_entries_projectsOfNowAlone() {
        WishSharer x = with(1, 2, 1);
        due("of two", x.wishes(0, 1, 5, 0, 1), 2);
        x.project(0, 1, 1, 0, 0);
        due("of three", x.wishes(0, 1, 5, 0, 1), 3);
        wishesAre("three", x, 0, 0, 1, 2);
    }

    void p05_entries_upToTheFirstThatWasThere() {
        WishSharer x = with(1, 5, 1);
        due("the same at once", x.wishes(0, 1, 20, 4, 0), 1);
        wishesAre("one", x, 0, 4);
        due("the byte comes again", x.wishes(0, 0, 20, 2, 256), 1);
        wishesAre("2 was there", x, 0, 2);
    }

    void p05_entries_whatTheOldOnesWereDoesNotMatter() {
        WishSharer x = with(1, 3, 1);
        wishAll(x, 0, 0, 1, 2);
        due("the same", x.wishes(0, 1, 3, 0, 1), 3);
        due("turned round", x.wishes(0, 1, 3, 2, -1), 3);
        wishesAre("new ones", x, 0, 2, 1, 0);
    }

    void p05_bytes_theLowest8Bits() {
        WishSharer x = with(1, 5, 1);
        int[] beginnings = {0, 256, -256, 512, 0x7fffff00, LEAST_INT};
        for (int f : beginnings) {
            due("f " + f, x.wishes(0, 0, 5, f, 1), 5);
            wishesAre("f " + f, x, 0, 0, 1, 2, 3, 4);
            due("f " + f + " + 4", x.wishes(0, 0, 5, f + 4, 255), 5);
            wishesAre("f " + f + " + 4", x, 0, 4, 3, 2, 1, 0);
        }
    }

    void p05_bytes_withASign() {
        WishSharer x = with(1, 5, 1);
        int[] none = {255, 128, 127, 5, -1, MOST_INT};
        for (int f : none) {
            due("f " + f, x.wishes(0, 0, 1, f, 0), 0);
        }
    }

    void p05_ints_allBits() {
        WishSharer x = with(1, 5, 1);
        int[] none = {256, -256, 65536, LEAST_INT, MOST_INT, 5, -1};
        for (int f : none) {
            due("f " + f, x.wishes(0, 1, 1, f, 0), 0);
        }
        due("the second is none", x.wishes(0, 1, 2, 0, 257), 1);
        wishesAre("one", x, 0, 0);
    }

    void p05_ints_goRound_pastTheMost() {
        WishSharer x = with(1, 5, 1);
        due("bytes", x.wishes(0, 0, 20, 4, MOST_INT), 5);
        wishesAre("4, least + 3, 2, least + 1, 0", x, 0, 4, 3, 2, 1, 0);
        due("ints", x.wishes(0, 1, 20, 4, MOST_INT), 1);
        wishesAre("least + 3 is no PROJECT", x, 0, 4);
    }

    void p05_ints_goRound_belowTheLeast() {
        WishSharer x = with(1, 5, 1);
        due("bytes", x.wishes(0, 0, 20, LEAST_INT + 1, LEAST_INT + 1), 4);
        wishesAre("least + 1, 2, least + 3, 4, least + 5", x, 0, 1, 2, 3, 4);
        due("ints", x.wishes(0, 1, 20, 1, LEAST_INT), 1);
        wishesAre("least + 1 is no PROJECT", x, 0, 1);
    }

    void p05_refusedChangesNothing() {
        changesNothing(Bench::some, x -> {
            x.wishes(0, 0, -1, 0, 1);
            x.wishes(0, 1, LEAST_INT, 0, 1);
            x.wishes(0, 0, 21, 0, 1);
            x.wishes(1, 2, 21, 0, 1);
            x.wishes(1, 3, 1, 0, 1);
            x.wishes(1, -1, 1, 0, 1);
            x.wishes(4, 1, 1, 0, 1);
            x.wishes(-1, 2, 1, 0, 1);
        });
    }

    // ---- 6: friends

    void p06_firstAndLastPupilTaken() {
        WishSharer x = with(8, 1, 8);
        putEach(x, 8, 0);
        yes("friends(0, 7)", x.friends(0, 7, true));
        due("worth(8)", x.worth(8), 1);
        yes("friends(7, 6)", x.friends(7, 6, true));
        due("worth(8)", x.worth(8), 2);
    }

    void p06_noneSuchRefused() {
        WishSharer x = withPupils(2);
        int[] none = {-1, 2, 8, 32, LEAST_INT, MOST_INT};
        for (int p : none) {
            no("friends(0, " + p + ", true)", x.friends(0, p, true));
            no("friends(" + p + ", 0, true)", x.friends(p, 0, true));
            no("friends(" + p + ", 1, false)", x.friends(p, 1, false));
            no("friends(" + p + ", " + p + ", true)", x.friends(p, p, true));
        }
    }

    void p06_8OfEightRefused() {
        WishSharer x = withPupils(8);
        no("friends(7, 8, true)", x.friends(7, 8, true));
        no("friends(8, 7, true)", x.friends(8, 7, true));
    }

    void p06_withItselfRefused() {
        WishSharer x = with(8, 1, 8);
        putEach(x, 8, 0);
        for (int p = 0; p < 8; p++) {
            no("friends(" + p + ", " + p + ", true)", x.friends(p, p, true));
            no("friends(" + p + ", " + p + ", false)", x.friends(p, p, false));
        }
        due("worth(8)", x.worth(8), 0);
    }

    void p06_eachPairToAndFro() {
        for (int a = 0; a < 8; a++) {
            for (int b = 0; b < 8; b++) {
                WishSharer x = with(8, 1, 8);
                putEach(x, 8, 0);
                due("friends(" + a + ", " + b + ", true)", x.friends(a, b, true) ? 1 : 0, a == b ? 0 : 1);
                due("worth(8)", x.worth(8), a == b ? 0 : 1);
                due("friends(" + b + ", " + a + ", false)", x.friends(b, a, false) ? 1 : 0, a == b ? 0 : 1);
                due("worth(8)", x.worth(8), 0);
            }
        }
    }

    void p06_whatTheyAreAlreadyIsTrueToo() {
        WishSharer x = with(2, 1, 2);
        putEach(x, 2, 0);
        yes("not, at first", x.friends(0, 1, false));
        due("worth(8)", x.worth(8), 0);
        yes("are", x.friends(0, 1, true));
        yes("are again", x.friends(1, 0, true));
        due("worth(8)", x.worth(8), 1);
        yes("one word is enough", x.friends(0, 1, false));
        due("worth(8)", x.worth(8), 0);
    }

    void p06_refusedChangesNothing() {
        changesNothing(Bench::some, x -> {
            x.friends(0, 4, true);
            x.friends(-1, 2, false);
            x.friends(2, 2, true);
            x.friends(0, 32, true);
        });
    }

    // ---- 7: apart

    void p07_firstAndLastPupilTaken() {
        WishSharer x = with(8, 1, 8);
        putEach(x, 8, 0);
        yes("apart(7, 6)", x.apart(7, 6, true));
        due("wrong()", x.wrong(), 76);
        yes("apart(7, 0)", x.apart(7, 0, true));
        due("wrong()", x.wrong(), 70);
    }

    void p07_noneSuchRefused() {
        WishSharer x = withPupils(2);
        int[] none = {-1, 2, 8, 32, LEAST_INT, MOST_INT};
        for (int p : none) {
            no("apart(0, " + p + ", true)", x.apart(0, p, true));
            no("apart(" + p + ", 0, true)", x.apart(p, 0, true));
            no("apart(" + p + ", 1, false)", x.apart(p, 1, false));
            no("apart(" + p + ", " + p + ", true)", x.apart(p, p, true));
        }
    }

    void p07_8OfEightRefused() {
        WishSharer x = withPupils(8);
        no("apart(7, 8, true)", x.apart(7, 8, true));
        no("apart(8, 7, true)", x.apart(8, 7, true));
    }

    void p07_withItselfRefused() {
        WishSharer x = with(8, 1, 8);
        putEach(x, 8, 0);
        for (int p = 0; p < 8; p++) {
            no("apart(" + p + ", " + p + ", true)", x.apart(p, p, true));
            no("apart(" + p + ", " + p + ", false)", x.apart(p, p, false));
        }
        due("wrong()", x.wrong(), 0);
    }

    void p07_eachPairToAndFro() {
        for (int a = 0; a < 8; a++) {
            for (int b = a + 1; b < 8; b++) {
                WishSharer x = with(8, 1, 8);
                putEach(x, 8, 0);
                yes("apart(" + b + ", " + a + ", true)", x.apart(b, a, true));
                due("wrong()", x.wrong(), 70 + a);
                yes("apart(" + a + ", " + b + ", false)", x.apart(a, b, false));
                due("wrong()", x.wrong(), 0);
            }
        }
    }

    void p07_whatTheyAreAlreadyIsTrueToo() {
        WishSharer x = with(2, 1, 2);
        putEach(x, 2, 0);
        yes("not, at first", x.apart(0, 1, false));
        due("wrong()", x.wrong(), 0);
        yes("are", x.apart(0, 1, true));
        yes("are again", x.apart(1, 0, true));
        due("wrong()", x.wrong(), 70);
        yes("one word is enough", x.apart(1, 0, false));
        due("wrong()", x.wrong(), 0);
    }

    void p07_friendsMayBeApart() {
        WishSharer x = with(2, 1, 2);
        putEach(x, 2, 0);
        yes("friends", x.friends(0, 1, true));
        yes("apart", x.apart(0, 1, true));
        due("worth(8)", x.worth(8), 1);
        due("wrong()", x.wrong(), 70);
    }

    void p07_refusedChangesNothing() {
        changesNothing(Bench::some, x -> {
            x.apart(0, 4, true);
            x.apart(-1, 1, false);
            x.apart(2, 2, true);
            x.apart(0, 32, false);
        });
    }

    // ---- 8: here

    void p08_firstAndLastPupilTaken() {
        WishSharer x = withPupils(8);
        yes("here(0, false)", x.here(0, false));
        yes("here(7, false)", x.here(7, false));
        due("count(2)", x.count(2), 6);
        due("of(0, 1)", x.of(0, 1), 0);
        due("of(7, 1)", x.of(7, 1), 0);
        yes("here(7, true)", x.here(7, true));
        due("of(7, 1)", x.of(7, 1), 1);
    }

    void p08_noneSuchRefused() {
        WishSharer x = withPupils(3);
        int[] none = {-1, 3, 8, LEAST_INT, MOST_INT};
        for (int p : none) {
            no("here(" + p + ", false)", x.here(p, false));
            no("here(" + p + ", true)", x.here(p, true));
        }
        due("count(2)", x.count(2), 3);
    }

    void p08_8OfEightRefused() {
        no("here(8, false)", withPupils(8).here(8, false));
    }

    void p08_asItIsAlreadyIsTrueToo() {
        WishSharer x = withPupils(1);
        yes("here, again", x.here(0, true));
        yes("away", x.here(0, false));
        yes("away, again", x.here(0, false));
        due("count(2)", x.count(2), 0);
    }

    void p08_thePlanStays() {
        WishSharer x = with(2, 2, 2);
        putAll(x, 1, 0);
        x.here(0, false);
        planIs("away", x, 1, 0);
        x.here(0, true);
        planIs("here", x, 1, 0);
        due("wrong()", x.wrong(), 0);
    }

    void p08_refusedChangesNothing() {
        changesNothing(Bench::some, x -> {
            x.here(4, false);
            x.here(-1, false);
            x.here(4, true);
        });
    }

    // ---- 9: offered

    void p09_firstAndLastProjectTaken() {
        WishSharer x = with(1, 5, 1);
        yes("offered(0, false)", x.offered(0, false));
        yes("offered(4, false)", x.offered(4, false));
        due("count(5)", x.count(5), 3);
        x.put(0, 4);
        due("wrong()", x.wrong(), 34);
        yes("offered(4, true)", x.offered(4, true));
        due("wrong()", x.wrong(), 0);
        due("count(5)", x.count(5), 4);
    }

    void p09_noneSuchRefused() {
        WishSharer x = with(1, 2, 1);
        int[] none = {-1, 2, 5, LEAST_INT, MOST_INT};
        for (int q : none) {
            no("offered(" + q + ", false)", x.offered(q, false));
            no("offered(" + q + ", true)", x.offered(q, true));
        }
        due("count(5)", x.count(5), 2);
    }

    void p09_5OfFiveRefused() {
        no("offered(5, true)", with(1, 5, 1).offered(5, true));
    }

    void p09_asItIsAlreadyIsTrueToo() {
        WishSharer x = with(1, 1, 1);
        yes("offered, again", x.offered(0, true));
        yes("not", x.offered(0, false));
        yes("not, again", x.offered(0, false));
        due("count(5)", x.count(5), 0);
    }

    void p09_thePlanStays() {
        WishSharer x = with(1, 2, 1);
        x.put(0, 1);
        x.offered(1, false);
        planIs("not offered", x, 1);
    }

    void p09_refusedChangesNothing() {
        changesNothing(Bench::some, x -> {
            x.offered(4, false);
            x.offered(-1, false);
            x.offered(4, true);
        });
    }

    // ---- 10: lots

    /** The document's rule again, in longs that are cut to 32 bits. */
    private static int[] orderBy(int seed, int pupils) {
        int[] order = new int[pupils];
        for (int i = 0; i < pupils; i++) {
            order[i] = i;
        }
        long r = seed & 0xffffffffL;
        for (int i = pupils - 1; i >= 1; i--) {
            r = (r * 1103515245L + 12345L) % (1L << 32);
            int j = (int) (r / 65536 % (i + 1));
            int kept = order[j];
            order[j] = order[i];
            order[i] = kept;
        }
        return order;
    }

    private void lotsAre(String what, WishSharer x, int... order) {
        for (int i = 0; i < order.length; i++) {
            due(what + " of(" + order[i] + ", 6)", x.of(order[i], 6), i);
        }
    }

    void p10_ofNoPupils() {
        yes("lots(1)", new WishSharer().lots(1));
    }

    void p10_ofOnePupil() {
        WishSharer x = withPupils(1);
        yes("lots(1)", x.lots(1));
        lotsAre("one", x, 0);
    }

    void p10_ofTwoByHand() {
        WishSharer x = withPupils(2);
        yes("lots(0)", x.lots(0));
        // R = 12345, its upper half is 0: place 1 and 0 are exchanged.
        lotsAre("seed 0", x, 1, 0);
        // R = 1103527590, its upper half is 16838, even: the same.
        yes("lots(1)", x.lots(1));
        lotsAre("seed 1", x, 1, 0);
        // R = 2207042835 less 2 to the 32nd, its upper half is 33676 without a sign, even.
        yes("lots(2)", x.lots(2));
        lotsAre("seed 2", x, 1, 0);
        // R = -1103502900, its upper half is 48697 without a sign, odd: place 1 stays.
        yes("lots(-1)", x.lots(-1));
        lotsAre("seed -1", x, 0, 1);
    }

    void p10_ofThreeByHand() {
        WishSharer x = withPupils(3);
        yes("lots(0)", x.lots(0));
        // R = 12345, its upper half is 0: places 2 and 0. R = 3554416254, its upper half is 54236, even: places 1 and 0.
        lotsAre("seed 0", x, 1, 2, 0);
    }

    void p10_eachNumberOfPupils_anySeed_intsGoRound() {
        int[] seeds = {0, 1, 2, -1, -2, 7, 12345, 65536, -65536, MOST_INT, MOST_INT - 1, LEAST_INT, LEAST_INT + 1};
        for (int pupils = 1; pupils <= 8; pupils++) {
            WishSharer x = withPupils(pupils);
            for (int seed : seeds) {
                yes("lots(" + seed + ")", x.lots(seed));
                lotsAre("seed " + seed, x, orderBy(seed, pupils));
            }
        }
    }

    void p10_anewFromAllAsTheyCame() {
        WishSharer x = withPupils(8);
        for (int i = 0; i < 4; i++) {
            x.lots(99);
            lotsAre("time " + i, x, orderBy(99, 8));
        }
    }

    void p10_thoseNotHereToo() {
        WishSharer x = withPupils(5);
        x.here(0, false);
        x.here(4, false);
        x.lots(7);
        lotsAre("all five", x, orderBy(7, 5));
    }

    // ---- 11: count

    void p11_what0_pupils() {
        WishSharer x = new WishSharer();
        for (int p = 1; p <= 8; p++) {
            x.pupil(0);
            x.here(p - 1, false);
            due("count(0)", x.count(0), p);
        }
        x.pupil(0);
        due("a ninth was refused", x.count(0), 8);
    }

    void p11_what1_projects() {
        WishSharer x = new WishSharer();
        for (int q = 1; q <= 5; q++) {
            x.project(0, 1, 1, 0, 0);
            x.offered(q - 1, false);
            due("count(1)", x.count(1), q);
        }
        x.project(0, 1, 1, 0, 0);
        due("a sixth was refused", x.count(1), 5);
    }

    void p11_what2_pupilsThatAreHere() {
        WishSharer x = withPupils(3);
        due("all", x.count(2), 3);
        x.here(1, false);
        due("all but one", x.count(2), 2);
        x.pupil(0);
        due("one more came", x.count(2), 3);
        x.here(1, true);
        due("it came back", x.count(2), 4);
    }

    void p11_what3_theYear() {
        WishSharer x = new WishSharer();
        for (int y = 0; y < 3; y++) {
            due("count(3)", x.count(3), y);
            x.book();
        }
        x.undo();
        due("one taken back", x.count(3), 2);
    }

    void p11_what4_numbersOfTheRow() {
        WishSharer x = whereARowOfFivePays();
        due("none yet", x.count(4), 0);
        x.lie(1);
        due("five of lie", x.count(4), 5);
        x.wishes(0, 1, 1, 1, 0);
        x.wishes(1, 1, 1, 0, 0);
        putAll(x, 0, 1);
        x.swap();
        due("two of swap", x.count(4), 2);
    }

    void p11_what5_projectsOffered() {
        WishSharer x = with(0, 3, 1);
        due("all", x.count(5), 3);
        x.offered(1, false);
        due("all but one", x.count(5), 2);
        x.project(0, 1, 1, 0, 0);
        due("one more", x.count(5), 3);
        x.offered(1, true);
        due("all again", x.count(5), 4);
    }

    void p11_what_0And5Taken_minus1And6Refused() {
        WishSharer x = with(2, 3, 1);
        due("0", x.count(0), 2);
        due("5", x.count(5), 3);
        due("-1", x.count(-1), NONE);
        due("6", x.count(6), NONE);
        due("least", x.count(LEAST_INT), NONE);
        due("most", x.count(MOST_INT), NONE);
    }

    void p11_empty() {
        WishSharer x = new WishSharer();
        for (int what = 0; what <= 5; what++) {
            due("count(" + what + ")", x.count(what), 0);
        }
    }

    void p11_full() {
        WishSharer x = full();
        int[] all = {8, 5, 8, 1, 2, 5};
        for (int what = 0; what <= 5; what++) {
            due("count(" + what + ")", x.count(what), all[what]);
        }
    }

    void p11_hereAndOffered_noneOfAll() {
        WishSharer x = with(8, 5, 8);
        for (int p = 0; p < 8; p++) {
            x.here(p, false);
            due("count(2)", x.count(2), 7 - p);
        }
        for (int q = 0; q < 5; q++) {
            x.offered(q, false);
            due("count(5)", x.count(5), 4 - q);
        }
        due("count(0)", x.count(0), 8);
        due("count(1)", x.count(1), 5);
    }

    // ---- 12: of

    void p12_what0_skills() {
        for (int skills = 0; skills <= 255; skills++) {
            WishSharer x = new WishSharer();
            x.pupil(skills);
            due("of(0, 0)", x.of(0, 0), skills);
        }
    }

    void p12_what1_here1_else0() {
        WishSharer x = withPupils(2);
        due("at first", x.of(1, 1), 1);
        x.here(1, false);
        due("away", x.of(1, 1), 0);
        due("the other", x.of(0, 1), 1);
        x.here(1, true);
        due("back", x.of(1, 1), 1);
    }

    void p12_what4_itsProjectByThePlan() {
        WishSharer x = with(3, 5, 1);
        due("at first", x.of(0, 4), NONE);
        putAll(x, 4, 0, 2);
        due("of(0, 4)", x.of(0, 4), 4);
        due("of(1, 4)", x.of(1, 4), 0);
        due("of(2, 4)", x.of(2, 4), 2);
        x.best();
        due("best by LOTS", x.of(0, 4), 0);
        x.book();
        due("booked", x.of(0, 4), NONE);
    }

    void p12_what6_itsPlaceByLots_from0On() {
        WishSharer x = withPupils(4);
        for (int seed = 0; seed < 20; seed++) {
            x.lots(seed);
            lotsAre("seed " + seed, x, orderBy(seed, 4));
        }
        due("one more", x.pupil(0), 4);
        due("of(4, 6)", x.of(4, 6), 4);
    }

    void p12_pupil_firstAndLastTaken() {
        WishSharer x = new WishSharer();
        for (int p = 0; p < 8; p++) {
            x.pupil(100 + p);
        }
        due("of(0, 0)", x.of(0, 0), 100);
        due("of(7, 0)", x.of(7, 0), 107);
    }

    void p12_pupil_noneSuchThrows() {
        WishSharer x = withPupils(3);
        int[] none = {-1, 3, 8, LEAST_INT, MOST_INT};
        for (int p : none) {
            for (int what = -1; what <= 7; what++) {
                noOf(x, p, what);
            }
        }
    }

    void p12_pupil_8OfEightThrows() {
        noOf(withPupils(8), 8, 0);
    }

    void p12_pupil_noneAtAllThrows() {
        noOf(new WishSharer(), 0, 0);
    }

    void p12_what_0And6Taken_minus1And7Throw() {
        WishSharer x = new WishSharer();
        x.pupil(9);
        x.pupil(8);
        due("of(1, 0)", x.of(1, 0), 8);
        due("of(1, 6)", x.of(1, 6), 1);
        noOf(x, 1, -1);
        noOf(x, 1, 7);
        noOf(x, 1, LEAST_INT);
        noOf(x, 1, MOST_INT);
    }

    void p12_withoutProject_rank0() {
        WishSharer x = with(1, 1, 1);
        x.wish(0, 0);
        due("of(0, 4)", x.of(0, 4), NONE);
        due("of(0, 5)", x.of(0, 5), 0);
    }

    void p12_rank_1To6() {
        WishSharer x = with(1, 5, 1);
        x.put(0, 0);
        due("not wished", x.of(0, 5), 6);
        x.wishes(0, 1, 5, 0, 1);
        for (int q = 0; q < 5; q++) {
            x.put(0, q);
            due("of(0, 4)", x.of(0, 4), q);
            due("of(0, 5)", x.of(0, 5), q + 1);
        }
    }

    void p12_rank_ofOneNotHereToo() {
        WishSharer x = with(1, 2, 1);
        wishAll(x, 0, 1, 0);
        x.put(0, 0);
        x.here(0, false);
        due("of(0, 4)", x.of(0, 4), 0);
        due("of(0, 5)", x.of(0, 5), 2);
    }

    void p12_wishes_0To5() {
        WishSharer x = with(1, 5, 1);
        for (int q = 0; q < 5; q++) {
            due("of(0, 2)", x.of(0, 2), q);
            x.wish(0, q);
        }
        due("of(0, 2)", x.of(0, 2), 5);
    }

    void p12_score_0To300() {
        WishSharer x = with(1, 1, 1);
        for (int y = 0; y < 60; y++) {
            due("of(0, 3)", x.of(0, 3), 5 * y);
            x.put(0, 0);
            x.book();
        }
        due("of(0, 3)", x.of(0, 3), 300);
    }

    void p12_thrownChangesNothing() {
        changesNothing(Bench::some, x -> {
            noOf(x, 4, 0);
            noOf(x, 0, 7);
        });
    }

    // ---- 13: rank

    void p13_ofEachProject() {
        WishSharer x = with(2, 5, 1);
        wishAll(x, 0, 4, 2, 0);
        int[] ranks = {3, 6, 2, 6, 1};
        for (int q = 0; q < 5; q++) {
            due("rank(0, " + q + ")", x.rank(0, q), ranks[q]);
            due("rank(1, " + q + ")", x.rank(1, q), 6);
        }
    }

    void p13_firstAndLastTaken() {
        WishSharer x = with(8, 5, 1);
        wishAll(x, 0, 0);
        wishAll(x, 7, 0, 4);
        due("rank(0, 0)", x.rank(0, 0), 1);
        due("rank(7, 4)", x.rank(7, 4), 2);
        due("rank(0, 4)", x.rank(0, 4), 6);
    }

    void p13_pupil_noneSuch() {
        WishSharer x = with(3, 1, 1);
        int[] none = {-1, 3, 8, LEAST_INT, MOST_INT};
        for (int p : none) {
            due("rank(" + p + ", 0)", x.rank(p, 0), NONE);
        }
        due("8 of eight", with(8, 1, 1).rank(8, 0), NONE);
    }

    void p13_project_noneSuch() {
        WishSharer x = with(1, 3, 1);
        int[] none = {-1, 3, 5, LEAST_INT, MOST_INT};
        for (int q : none) {
            due("rank(0, " + q + ")", x.rank(0, q), NONE);
        }
        due("5 of five", with(1, 5, 1).rank(0, 5), NONE);
    }

    void p13_ofOneNotHereAndOneNotOffered() {
        WishSharer x = with(1, 1, 1);
        x.wish(0, 0);
        x.here(0, false);
        x.offered(0, false);
        due("rank(0, 0)", x.rank(0, 0), 1);
    }
}
