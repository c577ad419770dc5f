/** Each promise of the document by hand: ordinary inputs, the edges that it names, wrong inputs. */
public final class PromiseTest extends Bench {
    private PromiseTest(Checks checks) {
        super(checks);
    }

    public static void main(String[] args) {
        Checks all = new Checks("PromiseTest");
        PromiseTest test = new PromiseTest(all);
        test.promises1To5();
        test.promises6To10();
        test.promises11To15();
        test.terms();
        test.promises16To20();
        test.promises21To25();
        all.end();
    }

    private void promises1To5() {
        newObject();
        pupil();
        project();
        wish();
        wishes();
    }

    private void promises6To10() {
        friends();
        apart();
        here();
        offered();
        lots();
    }

    private void promises11To15() {
        count();
        of();
        rank();
        put();
        wrongByOrder();
        wrongOfPupils();
        wrongSizes();
        wrongLeaderAndSkills();
    }

    private void terms() {
        fewerWorstRanksFirst();
        griefCountsScores();
        friendsBeforeLots();
        lotsDecide();
        numberDecides();
    }

    private void promises16To20() {
        best();
        plans();
        plansOfWrongPlan();
        worth();
        swap();
        change();
        changeTakesTheBest();
    }

    private void promises21To25() {
        lie();
        lieRefused();
        book();
        bookSixty();
        year();
        undo();
        row();
    }

    // ---- 1 to 5

    private void newObject() {
        WishSharer x = new WishSharer();
        due("1 NONE", WishSharer.NONE, -1);
        for (int what = 0; what <= 5; what++) {
            due("1 count(" + what + ")", x.count(what), 0);
        }
        due("1 year", x.year(0, 0), -1);
        due("1 undo", x.undo(), -1);
        due("1 wrong", x.wrong(), 0);
        due("1 best", x.best(), 1);
        due("1 plans", x.plans(0), 1);
        noOf(x, 0, 0);
        noRow(x, 0);
    }

    private void pupil() {
        WishSharer x = new WishSharer();
        due("2 skills -1", x.pupil(-1), -1);
        due("2 skills 256", x.pupil(256), -1);
        due("2 skills least", x.pupil(LEAST_INT), -1);
        due("2 skills most", x.pupil(MOST_INT), -1);
        due("2 none came", x.count(0), 0);
        due("2 first", x.pupil(255), 0);
        due("2 here", x.of(0, 1), 1);
        due("2 wishes", x.of(0, 2), 0);
        due("2 score", x.of(0, 3), 0);
        due("2 no project", x.of(0, 4), -1);
        due("2 second", x.pupil(0), 1);
        due("2 third", x.pupil(7), 2);
        x.lots(5);
        due("2 fourth", x.pupil(1), 3);
        due("2 the last by lots", x.of(3, 6), 3);
        due("2 skills", x.of(0, 0), 255);
        due("2 skills", x.of(1, 0), 0);
        for (int p = 4; p < 8; p++) {
            due("2 pupil", x.pupil(p), p);
        }
        due("2 a ninth", x.pupil(0), -1);
        due("2 eight", x.count(0), 8);
    }

    private void project() {
        WishSharer x = new WishSharer();
        due("3 kind -1", x.project(-1, 1, 1, 0, 0), -1);
        due("3 kind 4", x.project(4, 1, 1, 0, 0), -1);
        due("3 least 0", x.project(0, 0, 1, 0, 0), -1);
        due("3 least above most", x.project(0, 3, 2, 0, 0), -1);
        due("3 most 9", x.project(0, 1, 9, 0, 0), -1);
        due("3 least 9", x.project(0, 9, 9, 0, 0), -1);
        due("3 skills -1", x.project(0, 1, 1, -1, 0), -1);
        due("3 skills 256", x.project(0, 1, 1, 256, 0), -1);
        due("3 no leader yet", x.project(3, 1, 1, 0, 0), -1);
        due("3 none came", x.count(1), 0);
        x.pupil(0);
        due("3 leader -1", x.project(3, 1, 1, 0, -1), -1);
        due("3 leader 1", x.project(3, 1, 1, 0, 1), -1);
        due("3 leader most", x.project(3, 1, 1, 0, MOST_INT), -1);
        due("3 led", x.project(3, 1, 8, 255, 0), 0);
        due("3 plain, any leader", x.project(0, 8, 8, 0, -9), 1);
        due("3 pairs, any leader", x.project(1, 1, 1, 0, 9), 2);
        due("3 doubled, any leader", x.project(2, 2, 5, 1, LEAST_INT), 3);
        due("3 fifth", x.project(0, 1, 1, 0, 0), 4);
        due("3 a sixth", x.project(0, 1, 1, 0, 0), -1);
        due("3 all offered", x.count(5), 5);
    }

    private void wish() {
        WishSharer x = with(2, 3, 1);
        due("4 first", x.wish(0, 2), 1);
        due("4 again", x.wish(0, 2), -1);
        due("4 second", x.wish(0, 0), 2);
        due("4 no pupil", x.wish(2, 0), -1);
        due("4 no pupil", x.wish(-1, 0), -1);
        due("4 no project", x.wish(0, 3), -1);
        due("4 no project", x.wish(0, -1), -1);
        due("4 third", x.wish(0, 1), 3);
        due("4 ranks", x.rank(0, 2) * 100 + x.rank(0, 0) * 10 + x.rank(0, 1), 123);
        due("4 the other has none", x.of(1, 2), 0);
        x.project(0, 1, 1, 0, 0);
        due("4 a new project is no wish", x.rank(0, 3), 6);
        due("4 fourth", x.wish(0, 3), 4);
    }

    private void wishes() {
        WishSharer x = with(1, 5, 1);
        due("5 bytes", x.wishes(0, 0, 3, 1, 1), 3);
        due("5 rank", x.rank(0, 3), 3);
        due("5 ints", x.wishes(0, 1, 5, 4, -2), 3);
        due("5 rank", x.rank(0, 4), 1);
        due("5 the old ones are gone", x.rank(0, 3), 6);
        due("5 length below 0", x.wishes(0, 0, -1, 0, 1), -2);
        due("5 length least", x.wishes(0, 1, LEAST_INT, 0, 1), -2);
        due("5 they stay", x.of(0, 2), 3);
        due("5 above 20", x.wishes(0, 0, 21, 0, 1), -1);
        due("5 above 20, ints", x.wishes(0, 1, MOST_INT, 0, 1), -1);
        due("5 above 20, missing", x.wishes(0, 2, 21, 0, 1), -1);
        due("5 no kind", x.wishes(0, 3, 1, 0, 1), -1);
        due("5 no kind", x.wishes(0, -1, 1, 0, 1), -1);
        due("5 no pupil", x.wishes(1, 0, 1, 0, 1), -1);
        due("5 no pupil", x.wishes(-1, 0, 1, 0, 1), -1);
        due("5 they stay", x.rank(0, 2), 2);
        due("5 twenty", x.wishes(0, 1, 20, 0, 1), 5);
        due("5 none of a sheet of none", x.wishes(0, 0, 0, 0, 1), 0);
        due("5 gone", x.of(0, 2), 0);
        due("5 up to one that was there", x.wishes(0, 1, 9, 3, 0), 1);
        due("5 missing", x.wishes(0, 2, 3, 0, 1), 0);
        due("5 gone", x.rank(0, 3), 6);
        due("5 the lowest 8 bits", x.wishes(0, 0, 2, 258, 257), 2);
        due("5 byte 2", x.rank(0, 2), 1);
        due("5 byte 3", x.rank(0, 3), 2);
        due("5 a byte has a sign", x.wishes(0, 0, 3, 255, 1), 0);
        due("5 ints have more bits", x.wishes(0, 1, 2, 258, 257), 0);
        due("5 missing, length below 0", x.wishes(0, 2, -7, 0, 1), 0);
        due("5 ints go round", x.wishes(0, 1, 3, 0, LEAST_INT), 1);
        due("5 bytes of them too", x.wishes(0, 0, 3, 4, MOST_INT), 3);
        due("5 the third", x.rank(0, 2), 3);
    }

    // ---- 6 to 10

    private void friends() {
        WishSharer x = with(3, 2, 3);
        putAll(x, 0, 0, 1);
        yes("6 are", x.friends(1, 0, true));
        due("6 a pair", x.worth(8), 1);
        yes("6 are again", x.friends(0, 1, true));
        due("6 still one", x.worth(8), 1);
        yes("6 of unlike projects", x.friends(0, 2, true));
        due("6 they don't count", x.worth(8), 1);
        yes("6 are not, the other way round", x.friends(0, 1, false));
        due("6 none", x.worth(8), 0);
        no("6 with itself", x.friends(1, 1, true));
        no("6 none such", x.friends(0, 3, true));
        no("6 none such", x.friends(3, 0, true));
        no("6 none such", x.friends(-1, 0, true));
        no("6 none such", x.friends(0, LEAST_INT, false));
    }

    private void apart() {
        WishSharer x = with(3, 2, 3);
        putAll(x, 1, 0, 0);
        due("7 right", x.wrong(), 0);
        yes("7 are", x.apart(2, 1, true));
        due("7 wrong", x.wrong(), 71);
        yes("7 in unlike ones", x.apart(0, 1, true));
        due("7 wrong the same", x.wrong(), 71);
        yes("7 are not", x.apart(1, 2, false));
        due("7 right again", x.wrong(), 0);
        no("7 with itself", x.apart(0, 0, true));
        no("7 none such", x.apart(0, 3, true));
        no("7 none such", x.apart(-1, 0, true));
        due("7 friends they are not", x.worth(8), 0);
    }

    private void here() {
        WishSharer x = with(2, 1, 2);
        putAll(x, 0, 0);
        yes("8 away", x.here(1, false));
        due("8 of", x.of(1, 1), 0);
        due("8 the plan stays", x.of(1, 4), 0);
        due("8 so it is wrong", x.wrong(), 21);
        due("8 how many", x.count(2), 1);
        yes("8 away again", x.here(1, false));
        yes("8 here", x.here(1, true));
        due("8 right", x.wrong(), 0);
        no("8 none such", x.here(2, true));
        no("8 none such", x.here(-1, false));
    }

    private void offered() {
        WishSharer x = with(1, 2, 1);
        putAll(x, 1);
        yes("9 not", x.offered(1, false));
        due("9 the plan stays", x.of(0, 4), 1);
        due("9 wrong", x.wrong(), 31);
        due("9 how many", x.count(5), 1);
        due("9 plans", x.plans(0), 1);
        yes("9 yes", x.offered(1, true));
        due("9 right", x.wrong(), 0);
        due("9 plans", x.plans(0), 2);
        no("9 none such", x.offered(2, true));
        no("9 none such", x.offered(-1, true));
    }

    private void lots() {
        WishSharer x = withPupils(8);
        int[] seeds = {0, 7, -1, MOST_INT, LEAST_INT, 20261118};
        for (int seed : seeds) {
            yes("10 lots", x.lots(seed));
            int[] order = {0, 1, 2, 3, 4, 5, 6, 7};
            int r = seed;
            for (int i = 7; i >= 1; i--) {
                r = r * 1103515245 + 12345;
                int j = (r >>> 16) % (i + 1);
                int kept = order[i];
                order[i] = order[j];
                order[j] = kept;
            }
            for (int i = 0; i < 8; i++) {
                due("10 place by lots " + seed, x.of(order[i], 6), i);
            }
        }
        yes("10 of none", new WishSharer().lots(1));
        // By hand: R = 12345 for seed 0, its upper half is 0, so the two are exchanged.
        WishSharer two = withPupils(2);
        two.lots(0);
        due("10 the second comes first", two.of(1, 6), 0);
        due("10 the first comes last", two.of(0, 6), 1);
        two.pupil(0);
        due("10 a new one last", two.of(2, 6), 2);
    }

    // ---- 11 to 15

    private void count() {
        WishSharer x = with(3, 2, 3);
        due("11 what -1", x.count(-1), -1);
        due("11 what 6", x.count(6), -1);
        due("11 what most", x.count(MOST_INT), -1);
        due("11 pupils", x.count(0), 3);
        due("11 projects", x.count(1), 2);
        x.here(0, false);
        due("11 here", x.count(2), 2);
        x.offered(0, false);
        due("11 offered", x.count(5), 1);
        x.best();
        x.book();
        due("11 the year", x.count(3), 1);
        due("11 no row", x.count(4), 0);
    }

    private void of() {
        WishSharer x = with(2, 2, 2);
        wishAll(x, 1, 0, 1);
        x.put(1, 1);
        due("12 skills", x.of(1, 0), 0);
        due("12 here", x.of(1, 1), 1);
        due("12 wishes", x.of(1, 2), 2);
        due("12 score", x.of(1, 3), 0);
        due("12 project", x.of(1, 4), 1);
        due("12 rank", x.of(1, 5), 2);
        due("12 place", x.of(1, 6), 1);
        due("12 without a project", x.of(0, 4), -1);
        due("12 no rank", x.of(0, 5), 0);
        x.put(0, 0);
        due("12 not wished", x.of(0, 5), 6);
        noOf(x, 2, 0);
        noOf(x, -1, 0);
        noOf(x, 0, -1);
        noOf(x, 0, 7);
        noOf(x, LEAST_INT, MOST_INT);
    }

    private void rank() {
        WishSharer x = with(1, 5, 1);
        wishAll(x, 0, 4, 3, 2, 1, 0);
        for (int q = 0; q < 5; q++) {
            due("13 rank", x.rank(0, q), 5 - q);
        }
        due("13 no project", x.rank(0, 5), -1);
        due("13 no project", x.rank(0, -1), -1);
        due("13 no pupil", x.rank(1, 0), -1);
        due("13 no pupil", x.rank(-1, 0), -1);
        x.wishes(0, 2, 0, 0, 0);
        due("13 not there", x.rank(0, 0), 6);
    }

    private void put() {
        WishSharer x = with(2, 2, 1);
        yes("14 put", x.put(0, 1));
        yes("14 put", x.put(1, 0));
        planIs("14", x, 1, 0);
        yes("14 none", x.put(0, -1));
        planIs("14", x, -1, 0);
        no("14 no project", x.put(1, 2));
        no("14 no project", x.put(1, -2));
        no("14 no pupil", x.put(2, 0));
        no("14 no pupil", x.put(-1, -1));
        planIs("14", x, -1, 0);
        x.here(0, false);
        yes("14 one that is not here", x.put(0, 0));
        planIs("14", x, 0, 0);
    }

    private void wrongByOrder() {
        WishSharer x = withPupils(6);
        x.project(0, 1, 8, 0, 0);
        x.project(0, 2, 2, 0, 0);
        x.project(3, 1, 8, 0, 5);
        x.project(0, 1, 8, 1, 0);
        x.apart(0, 1, true);
        x.offered(0, false);
        x.here(4, false);
        putAll(x, 3, 3, 2, 1, 0, -1);
        due("15 first of all 1", x.wrong(), 15);
        x.put(5, 0);
        due("15 then 2", x.wrong(), 24);
        x.put(4, -1);
        due("15 then 3", x.wrong(), 30);
        x.put(5, 3);
        due("15 then 4", x.wrong(), 41);
        x.put(3, 2);
        due("15 then 5", x.wrong(), 52);
        x.put(5, 2);
        due("15 then 6", x.wrong(), 63);
        putAll(x, 1, 1);
        due("15 then 7", x.wrong(), 70);
        x.put(1, 2);
        due("15 1 is alone now", x.wrong(), 41);
        x.put(0, 2);
        due("15 7 in another one", x.wrong(), 70);
        x.apart(0, 1, false);
        due("15 right", x.wrong(), 0);
    }

    private void wrongOfPupils() {
        WishSharer x = with(4, 2, 4);
        due("15 the first without", x.wrong(), 10);
        putAll(x, 0, -1, 0, -1);
        due("15 the least number", x.wrong(), 11);
        putAll(x, 0, 0, 1, 1);
        x.here(3, false);
        x.here(1, false);
        due("15 the least number away", x.wrong(), 21);
        x.here(3, true);
        x.here(1, true);
        x.apart(2, 3, true);
        due("15 first of two", x.wrong(), 72);
        x.apart(1, 0, true);
        due("15 first of the first two", x.wrong(), 70);
        x.offered(1, false);
        due("15 offered before apart", x.wrong(), 31);
        x.offered(0, false);
        due("15 the least project", x.wrong(), 30);
    }

    private void sizesAre(String what, int kind, int least, int most, String right) {
        WishSharer x = withPupils(8);
        x.project(kind, least, most, 0, 0);
        x.project(0, 1, 8, 0, 0);
        for (int k = 1; k <= 8; k++) {
            for (int p = 0; p < 8; p++) {
                x.put(p, p < k ? 0 : 1);
            }
            due("15 " + what + " of " + k, x.wrong(), right.indexOf('0' + k) >= 0 ? 0 : 40);
        }
    }

    private void wrongSizes() {
        sizesAre("plain 2 to 4", 0, 2, 4, "234");
        sizesAre("led 3 to 3", 3, 3, 3, "3");
        sizesAre("pairs 1 to 5", 1, 1, 5, "24");
        sizesAre("pairs 3 to 3", 1, 3, 3, "");
        sizesAre("doubled 1 to 2", 2, 1, 2, "1234");
        sizesAre("doubled 2 to 2", 2, 2, 2, "24");
        sizesAre("doubled 3 to 4", 2, 3, 4, "34678");
        sizesAre("doubled 1 to 4", 2, 1, 4, "12345678");
        sizesAre("doubled 4 to 5", 2, 4, 5, "458");
    }

    private void wrongLeaderAndSkills() {
        WishSharer x = new WishSharer();
        x.pupil(1);
        x.pupil(2);
        x.pupil(3);
        x.pupil(128);
        x.project(3, 1, 4, 128, 3);
        x.project(2, 1, 2, 3, 0);
        putAll(x, 1, 1, 0, 0);
        due("15 right", x.wrong(), 0);
        putAll(x, 1, 1, 0, 1);
        due("15 no leader", x.wrong(), 50);
        putAll(x, 1, 1, 1, 0);
        due("15 twice, one alone has none of it", x.wrong(), 0);
        putAll(x, 1, 0, 1, 0);
        due("15 once", x.wrong(), 0);
        putAll(x, 1, 0, 0, 0);
        due("15 a skill that it hasn't", x.wrong(), 61);
        putAll(x, 1, 1, 1, 1);
        due("15 four, twice", x.wrong(), 0);
        WishSharer y = new WishSharer();
        y.pupil(1);
        y.pupil(0);
        y.pupil(0);
        y.project(2, 1, 2, 1, 0);
        y.project(0, 1, 8, 0, 0);
        putAll(y, 0, 0, 1);
        due("15 one has it", y.wrong(), 0);
        putAll(y, 0, 0, 0);
        due("15 twice, fewer than two", y.wrong(), 60);
        y.pupil(1);
        y.put(3, 0);
        due("15 twice, two", y.wrong(), 0);
    }

    // ---- the terms

    private void fewerWorstRanksFirst() {
        WishSharer x = with(2, 4, 1);
        wishAll(x, 0, 0, 1, 2);
        wishAll(x, 1, 0, 3, 1);
        x.offered(2, false);
        x.offered(3, false);
        x.best();
        // Ranks 1 and 3, or 2 and 1.
        planIs("T ranks", x, 1, 0);
        WishSharer y = with(2, 5, 1);
        wishAll(y, 0, 0, 1, 2, 3, 4);
        wishAll(y, 1, 0, 3, 2, 4, 1);
        y.offered(2, false);
        y.offered(3, false);
        y.offered(4, false);
        // Ranks 1 and 5, or 2 and 1.
        y.best();
        planIs("T five", y, 1, 0);
        y.wishes(0, 1, 1, 0, 1);
        // Ranks 1 and 5, or 6 and 1.
        y.best();
        planIs("T six", y, 0, 1);
        worstFirstAgainstGrief();
    }

    private void worstFirstAgainstGrief() {
        // Ranks 2, 2, 2 or 1, 1, 3: the 3 counts before the sum, which is less.
        WishSharer x = with(3, 4, 1);
        wishAll(x, 0, 0, 1, 3);
        wishAll(x, 1, 1, 2, 3);
        wishAll(x, 2, 3, 0, 2);
        x.offered(3, false);
        x.best();
        planIs("T 2, 2, 2 before 1, 1, 3", x, 1, 2, 0);
        due("T grief of it", x.worth(7), 6);
        putAll(x, 0, 1, 2);
        due("T less grief", x.worth(7), 5);
        due("T yet the other is better", x.plans(1), 1);
    }

    private void griefCountsScores() {
        WishSharer x = with(2, 2, 1);
        wishAll(x, 0, 0, 1);
        wishAll(x, 1, 0, 1);
        x.best();
        planIs("T lots as they came", x, 0, 1);
        x.book();
        due("T score", x.of(1, 3), 1);
        x.best();
        planIs("T one that fared ill", x, 1, 0);
        due("T grief 2 * 1 + 1 * 2", x.worth(7), 4);
        x.book();
        x.best();
        planIs("T even again", x, 0, 1);
    }

    private void friendsBeforeLots() {
        WishSharer x = with(3, 2, 2);
        for (int p = 0; p < 3; p++) {
            wishAll(x, p, 0, 1);
        }
        x.best();
        planIs("T by lots", x, 0, 0, 1);
        x.friends(1, 2, true);
        x.best();
        planIs("T friends", x, 1, 0, 0);
        due("T a pair", x.worth(8), 1);
        x.friends(0, 2, true);
        x.best();
        planIs("T as many friends, lots again", x, 0, 1, 0);
    }

    private void lotsDecide() {
        WishSharer x = with(2, 2, 1);
        wishAll(x, 0, 0, 1);
        wishAll(x, 1, 0, 1);
        x.lots(0);
        due("T pupil 1 is first", x.of(1, 6), 0);
        x.best();
        planIs("T by lots", x, 1, 0);
        due("T none better", x.plans(1), 0);
        putAll(x, 0, 1);
        due("T one better", x.plans(1), 1);
    }

    private void numberDecides() {
        WishSharer x = with(2, 3, 1);
        x.best();
        planIs("T the less number", x, 0, 1);
        putAll(x, 1, 0);
        due("T one has a less number", x.plans(1), 2);
        putAll(x, 0, 2);
        due("T then the second's number", x.plans(1), 1);
        x.lots(0);
        x.best();
        planIs("T the first by lots has the less number", x, 1, 0);
    }

    // ---- 16 to 20

    private void best() {
        WishSharer x = with(3, 3, 1);
        wishAll(x, 0, 0, 1, 2);
        wishAll(x, 1, 0, 2, 1);
        wishAll(x, 2, 0, 2, 1);
        due("16 there is one", x.best(), 1);
        // Without a 3 the first must do with its second.
        due("16 no 3", x.worth(3), 0);
        planIs("16", x, 1, 0, 2);
        x.here(2, false);
        due("16 of two", x.best(), 1);
        planIs("16 none for one that is away", x, 0, 2, -1);
        x.apart(0, 1, true);
        x.offered(1, false);
        x.offered(2, false);
        putAll(x, 2, 1, 0);
        due("16 there is none", x.best(), 0);
        planIs("16 it stays", x, 2, 1, 0);
        x.here(0, false);
        x.here(1, false);
        due("16 of nobody", x.best(), 1);
        planIs("16 nobody has any", x, -1, -1, -1);
        WishSharer all = with(8, 5, 8);
        due("16 of eight", all.best(), 1);
        planIs("16 of eight", all, 0, 0, 0, 0, 0, 0, 0, 0);
    }

    private void plans() {
        WishSharer x = with(3, 2, 2);
        due("17 another what", x.plans(2), -1);
        due("17 another what", x.plans(-1), -1);
        // All but the two that put three together.
        due("17 right", x.plans(0), 6);
        x.best();
        due("17 none better", x.plans(1), 0);
        x.apart(0, 1, true);
        due("17 right", x.plans(0), 4);
        x.here(2, false);
        due("17 right of two", x.plans(0), 2);
        x.offered(0, false);
        due("17 none", x.plans(0), 0);
        due("17 all of eight", with(8, 5, 8).plans(0), 390625);
        WishSharer led = withPupils(8);
        led.project(3, 1, 8, 0, 7);
        led.project(1, 1, 8, 0, 0);
        led.project(2, 2, 2, 0, 0);
        due("17 of kinds", led.plans(0), kindsByHand());
    }

    /** How many ways eight go to a led one (none, or with pupil 7), to pairs, to a doubled one (2 or 4). */
    private static int kindsByHand() {
        int ways = 0;
        for (int code = 0; code < 6561; code++) {
            int[] sizes = new int[3];
            int rest = code;
            int last = 0;
            for (int p = 0; p < 8; p++) {
                last = rest % 3;
                sizes[last]++;
                rest /= 3;
            }
            boolean led = sizes[0] == 0 || last == 0;
            ways += led && sizes[1] % 2 == 0 && sizes[2] % 2 == 0 && sizes[2] <= 4 ? 1 : 0;
        }
        return ways;
    }

    private void plansOfWrongPlan() {
        WishSharer x = with(2, 2, 1);
        due("17 all are better than none", x.plans(1), 2);
        wishAll(x, 0, 0, 1);
        wishAll(x, 1, 0, 1);
        putAll(x, 0, 0);
        due("17 a wrong one can be better", x.plans(1), 0);
        putAll(x, 0, -1);
        due("17 none has rank 6", x.plans(1), 2);
        x.wishes(1, 2, 0, 0, 0);
        // Of 0: 0 and 1: none, only (0, 1) is better: rank 6 both, but none is the greater number.
        due("17 none is the greater number", x.plans(1), 1);
        x.here(1, false);
        x.put(1, 0);
        x.friends(0, 1, true);
        due("17 one that is away does not count", x.plans(1), 0);
        x.put(0, 1);
        due("17 one better", x.plans(1), 1);
        WishSharer y = with(2, 1, 2);
        y.friends(0, 1, true);
        due("17 two without are not together", y.plans(1), 1);
    }

    private void worth() {
        WishSharer x = with(6, 5, 6);
        wishAll(x, 0, 0, 1, 2, 3, 4);
        wishAll(x, 1, 0, 1, 2, 3, 4);
        wishAll(x, 2, 2, 1, 0, 3, 4);
        wishAll(x, 3, 0, 1, 2);
        putAll(x, 4, 1, 2, 4, 4, -1);
        int[] due = {-1, 1, 1, 0, 0, 1, 2, 20, 0, 3, -1};
        for (int what = 0; what < due.length; what++) {
            due("18 worth(" + what + ")", x.worth(what), due[what]);
        }
        due("18 what -1", x.worth(-1), -1);
        due("18 what least", x.worth(LEAST_INT), -1);
        x.friends(0, 3, true);
        x.friends(3, 4, true);
        x.friends(4, 5, true);
        x.friends(0, 1, true);
        due("18 pairs", x.worth(8), 2);
        x.here(3, false);
        due("18 one away: no pairs", x.worth(8), 0);
        due("18 one away: grief", x.worth(7), 14);
        due("18 one away: rank 6", x.worth(6), 1);
        x.here(2, false);
        due("18 its project has none", x.worth(9), 2);
    }

    private void swap() {
        WishSharer x = with(4, 4, 1);
        wishAll(x, 0, 0, 1, 2, 3);
        wishAll(x, 1, 1, 0, 2, 3);
        wishAll(x, 2, 2, 3);
        wishAll(x, 3, 3, 2);
        putAll(x, 0, 1, 3, 2);
        due("19 the third and fourth", x.swap(), 1);
        rowIs("19", x, 2, 3);
        planIs("19 the plan stays", x, 0, 1, 3, 2);
        putAll(x, 1, 0, 3, 2);
        due("19 the first two", x.swap(), 1);
        rowIs("19", x, 0, 1);
        x.here(1, false);
        due("19 not right then", x.swap(), 0);
        rowIs("19 the row stays", x, 0, 1);
        x.put(1, -1);
        due("19 the other pair", x.swap(), 1);
        rowIs("19", x, 2, 3);
        x.apart(2, 3, true);
        due("19 apart in unlike ones", x.swap(), 1);
        x.put(2, -1);
        due("19 one without", x.swap(), 0);
        putAll(x, 2, -1, 2, 2);
        due("19 in one project", x.swap(), 0);
        swapMayMendThePlan();
    }

    private void swapMayMendThePlan() {
        WishSharer x = withPupils(2);
        x.project(3, 1, 1, 0, 0);
        x.project(0, 1, 1, 0, 0);
        wishAll(x, 0, 0, 1);
        wishAll(x, 1, 1, 0);
        putAll(x, 1, 0);
        due("19 wrong now", x.wrong(), 50);
        due("19 right then", x.swap(), 1);
        putAll(x, 0, 1);
        due("19 none gains", x.swap(), 0);
        x.wishes(1, 1, 1, 0, 1);
        putAll(x, 0, 1);
        due("19 one alone gains", x.swap(), 0);
        x.wishes(0, 1, 1, 1, 1);
        due("19 both gain, but it is not right", x.swap(), 0);
        x.wishes(0, 2, 0, 0, 0);
        x.wishes(1, 2, 0, 0, 0);
        due("19 as much is not less", x.swap(), 0);
    }

    private void change() {
        WishSharer x = with(3, 3, 1);
        putAll(x, 2, 1, 0);
        due("20 right as it is", x.change(), 0);
        planIs("20", x, 2, 1, 0);
        x.here(1, false);
        due("20 a leaver does not count", x.change(), 0);
        planIs("20 it has none", x, 2, -1, 0);
        x.offered(2, false);
        due("20 one moves", x.change(), 1);
        planIs("20", x, 1, -1, 0);
        x.here(1, true);
        due("20 three for two", x.change(), -1);
        planIs("20 it stays", x, 1, -1, 0);
        x.offered(2, true);
        due("20 one that had none does not count", x.change(), 0);
        planIs("20", x, 1, 2, 0);
        due("20 of none", new WishSharer().change(), 0);
        WishSharer y = withPupils(4);
        y.project(1, 2, 4, 0, 0);
        y.project(1, 2, 4, 0, 0);
        putAll(y, 0, 0, 0, 1);
        due("20 the fewest", y.change(), 1);
        planIs("20 the fourth of three and one", y, 0, 0, 0, 0);
        putAll(y, 0, 1, 0, 1);
        y.here(3, false);
        due("20 none of three", y.change(), -1);
    }

    private void changeTakesTheBest() {
        WishSharer x = with(3, 3, 2);
        wishAll(x, 0, 1, 2);
        wishAll(x, 1, 2, 1);
        wishAll(x, 2, 0);
        putAll(x, 0, 0, 0);
        due("20 one moves", x.change(), 1);
        // As many moves, as many of rank 6: 0 to 1 or 1 to 2 leave one, lots decide.
        planIs("20 by lots", x, 1, 0, 0);
        putAll(x, 0, 0, 0);
        x.wishes(0, 1, 3, 0, 1);
        due("20 one moves", x.change(), 1);
        planIs("20 the one that gains", x, 0, 2, 0);
        putAll(x, -1, -1, -1);
        due("20 none moves", x.change(), 0);
        planIs("20 the best of all", x, 0, 2, 0);
        putAll(x, 1, 1, 0);
        due("20 no wish moves anyone", x.change(), 0);
        planIs("20", x, 1, 1, 0);
    }

    // ---- 21 to 25

    private void lie() {
        WishSharer x = with(3, 3, 1);
        wishAll(x, 0, 0, 1, 2);
        wishAll(x, 1, 2, 1, 0);
        wishAll(x, 2, 0, 1);
        x.best();
        planIs("21", x, 0, 2, 1);
        putAll(x, 2, 1, 0);
        due("21 pays", x.lie(2), 1);
        rowIs("21", x, 0, 2, 1);
        due("21 its wishes stay", x.of(2, 2), 2);
        due("21 its wishes stay", x.rank(2, 1), 2);
        due("21 its wishes stay", x.rank(2, 2), 6);
        planIs("21 the plan stays", x, 2, 1, 0);
        due("21 has its first", x.lie(0), 0);
        due("21 has its first", x.lie(1), 0);
        rowIs("21 the row stays", x, 0, 2, 1);
        x.best();
        planIs("21 as it was", x, 0, 2, 1);
        x.wishes(2, 1, 3, 0, 2);
        x.wish(2, 1);
        x.best();
        planIs("21 told in earnest", x, 1, 2, 0);
        lieOfNotOffered();
    }

    private void lieOfNotOffered() {
        // All four PROJECTS are in the row, though one is not offered.
        WishSharer x = with(2, 4, 1);
        wishAll(x, 0, 0, 1);
        wishAll(x, 1, 0, 1);
        x.offered(2, false);
        x.offered(3, false);
        due("21 pays", x.lie(1), 1);
        rowIs("21 all projects", x, 0, 2, 1, 3);
        due("21 the first by lots has it", x.lie(0), 0);
    }

    private void lieRefused() {
        WishSharer x = with(6, 5, 2);
        due("21 six", x.lie(0), -1);
        x.here(0, false);
        due("21 five", x.lie(1), 0);
        due("21 not here", x.lie(0), -1);
        due("21 none such", x.lie(6), -1);
        due("21 none such", x.lie(-1), -1);
        for (int q = 0; q < 3; q++) {
            x.offered(q, false);
        }
        due("21 five for four places", x.lie(1), -2);
        due("21 not here, asked first", x.lie(0), -1);
        due("21 no row", x.count(4), 0);
    }

    private void book() {
        WishSharer x = with(3, 3, 1);
        wishAll(x, 0, 0, 1, 2);
        wishAll(x, 1, 1);
        x.here(2, false);
        due("22 not right", x.book(), 0);
        due("22 no year", x.count(3), 0);
        putAll(x, 2, 1);
        due("22 booked", x.book(), 1);
        due("22 next year", x.count(3), 1);
        due("22 score", x.of(0, 3), 2);
        due("22 score", x.of(1, 3), 0);
        due("22 one away", x.of(2, 3), 0);
        planIs("22 none has any", x, -1, -1, -1);
        due("22 not right", x.book(), 0);
        putAll(x, 0, 2);
        due("22 booked", x.book(), 1);
        due("22 score", x.of(0, 3), 2);
        due("22 score", x.of(1, 3), 5);
        due("22 two years", x.count(3), 2);
    }

    private void bookSixty() {
        WishSharer x = with(1, 1, 1);
        for (int y = 0; y < 60; y++) {
            x.put(0, 0);
            due("22 year " + y, x.book(), 1);
        }
        due("22 sixty", x.count(3), 60);
        due("22 score", x.of(0, 3), 300);
        due("22 asked first", x.book(), -1);
        x.put(0, 0);
        due("22 sixty were booked", x.book(), -1);
        due("22 the plan stays", x.of(0, 4), 0);
        due("22 grief", x.worth(7), 6 * 301);
        due("23 the last", x.year(59, 0), 6);
        due("23 none such", x.year(60, 0), -1);
        due("24 back", x.undo(), 59);
        due("24 score", x.of(0, 3), 295);
        due("22 once more", x.book(), 1);
        due("22 sixty", x.count(3), 60);
    }

    private void year() {
        WishSharer x = with(2, 2, 2);
        wishAll(x, 0, 1, 0);
        x.here(1, false);
        x.put(0, 0);
        x.book();
        x.here(1, true);
        x.pupil(0);
        x.wish(2, 1);
        putAll(x, 1, 1, 1);
        x.project(0, 1, 3, 0, 0);
        due("23 three are too many", x.book(), 0);
        putAll(x, 1, 2, 1);
        due("22 right", x.book(), 1);
        due("23", x.year(0, 0), 2);
        due("23 not here", x.year(0, 1), 0);
        due("23 not there", x.year(0, 2), 0);
        due("23", x.year(1, 0), 1);
        due("23", x.year(1, 1), 6);
        due("23", x.year(1, 2), 1);
        due("23 no year", x.year(2, 0), -1);
        due("23 no year", x.year(-1, 0), -1);
        due("23 no pupil", x.year(0, 3), -1);
        due("23 no pupil", x.year(0, -1), -1);
        x.wishes(0, 2, 0, 0, 0);
        due("23 as it was then", x.year(0, 0), 2);
        x.undo();
        due("23 taken back", x.year(1, 0), -1);
    }

    private void undo() {
        WishSharer x = with(2, 2, 1);
        wishAll(x, 0, 0, 1);
        wishAll(x, 1, 0, 1);
        due("24 none", x.undo(), -1);
        putAll(x, 1, 0);
        x.book();
        putAll(x, 0, 1);
        x.book();
        x.pupil(0);
        x.put(2, 0);
        x.wishes(1, 2, 0, 0, 0);
        x.here(0, false);
        due("24 scores", x.of(0, 3) * 10 + x.of(1, 3), 11);
        due("24 the second", x.undo(), 1);
        planIs("24 others have none", x, 0, 1, -1);
        due("24 scores", x.of(0, 3) * 10 + x.of(1, 3), 10);
        due("24 here as now", x.of(0, 1), 0);
        due("24 wishes as now", x.of(1, 2), 0);
        x.put(2, 1);
        due("24 the first", x.undo(), 0);
        planIs("24", x, 1, 0, -1);
        due("24 scores", x.of(0, 3) * 10 + x.of(1, 3), 0);
        due("24 none", x.undo(), -1);
        planIs("24 it stays", x, 1, 0, -1);
        due("24 the year", x.count(3), 0);
        x.here(2, false);
        x.here(0, true);
        due("24 booked anew", x.book(), 1);
        due("24 score by the ranks of now", x.of(1, 3), 5);
        due("24 one that was there, not here", x.year(0, 2), 0);
    }

    private void row() {
        WishSharer x = with(2, 2, 1);
        noRow(x, 0);
        noRow(x, -1);
        wishAll(x, 0, 1, 0);
        wishAll(x, 1, 0, 1);
        putAll(x, 0, 1);
        x.swap();
        rowIs("25", x, 0, 1);
        noRow(x, -1);
        noRow(x, LEAST_INT);
        noRow(x, MOST_INT);
        x.best();
        x.book();
        x.undo();
        rowIs("25 it stays", x, 0, 1);
    }
}
