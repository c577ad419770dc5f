import java.util.ArrayList;
import java.util.Arrays;
import java.util.List;
import java.util.Random;
import java.util.function.Supplier;

/** Cases of promises 14 to 21, plans: a case a sentence, told by its name. */
final class CasesOfPlans extends Bench {
    private static final int EVERY = 390625;

    CasesOfPlans(Checks checks) {
        super(checks);
    }

    // ---- 14: put

    void p14_pupil_firstAndLastTaken() {
        WishSharer x = with(8, 1, 8);
        yes("put(0, 0)", x.put(0, 0));
        yes("put(7, 0)", x.put(7, 0));
        planIs("both", x, 0, NONE, NONE, NONE, NONE, NONE, NONE, 0);
    }

    void p14_pupil_noneSuchRefused() {
        WishSharer x = with(3, 1, 8);
        int[] none = {-1, 3, 8, LEAST_INT, MOST_INT};
        for (int p : none) {
            no("put(" + p + ", 0)", x.put(p, 0));
            no("put(" + p + ", -1)", x.put(p, NONE));
        }
        no("put(8, 0) of eight", with(8, 1, 8).put(8, 0));
    }

    void p14_project_noneFirstAndLastTaken() {
        WishSharer x = with(1, 5, 8);
        yes("put(0, 4)", x.put(0, 4));
        planIs("4", x, 4);
        yes("put(0, 0)", x.put(0, 0));
        planIs("0", x, 0);
        yes("put(0, -1)", x.put(0, NONE));
        planIs("none", x, NONE);
    }

    void p14_project_minus2AndOneAboveRefused() {
        WishSharer x = with(1, 2, 8);
        x.put(0, 1);
        int[] none = {-2, 2, 5, LEAST_INT, MOST_INT};
        for (int q : none) {
            no("put(0, " + q + ")", x.put(0, q));
        }
        planIs("it stays", x, 1);
        no("put(0, 5) of five", with(1, 5, 8).put(0, 5));
    }

    void p14_itNeedNotBeRight() {
        WishSharer x = with(2, 1, 1);
        x.here(0, false);
        x.offered(0, false);
        x.apart(0, 1, true);
        yes("put(0, 0)", x.put(0, 0));
        yes("put(1, 0)", x.put(1, 0));
        planIs("both", x, 0, 0);
    }

    void p14_refusedChangesNothing() {
        changesNothing(Bench::some, x -> {
            x.put(4, 0);
            x.put(-1, 0);
            x.put(0, 4);
            x.put(0, -2);
        });
    }

    // ---- 15: wrong

    void p15_right0() {
        due("of nothing", new WishSharer().wrong(), 0);
        WishSharer x = with(8, 1, 8);
        putEach(x, 8, 0);
        due("of eight", x.wrong(), 0);
    }

    void p15_ofPupils_1And2And7() {
        for (int p = 0; p < 7; p++) {
            WishSharer x = with(8, 2, 8);
            putEach(x, 8, 1);
            x.apart(p, 7, true);
            due("7 of " + p, x.wrong(), 70 + p);
            x.here(p, false);
            due("2 of " + p, x.wrong(), 20 + p);
            x.here(p, true);
            x.put(p, NONE);
            due("1 of " + p, x.wrong(), 10 + p);
        }
    }

    void p15_ofProjects_3And4And5And6() {
        for (int q = 0; q < 5; q++) {
            WishSharer x = withPupils(8);
            for (int i = 0; i < 5; i++) {
                x.project(3, 1, 2, 1, 7);
            }
            for (int p = 2; p < 8; p++) {
                x.here(p, false);
            }
            x.here(7, true);
            putAll(x, NONE, q);
            x.here(0, false);
            x.put(7, q);
            due("6 of " + q, x.wrong(), 60 + q);
            x.put(7, (q + 1) % 5);
            due("5 of " + q, x.wrong(), 50 + q);
            x.here(0, true);
            putAll(x, q, q);
            x.put(7, q);
            due("4 of " + q, x.wrong(), 40 + q);
            x.offered(q, false);
            due("3 of " + q, x.wrong(), 30 + q);
        }
    }

    void p15_least10_most76() {
        WishSharer x = with(8, 1, 8);
        due("WRONG 1 of PUPIL 0", x.wrong(), 10);
        putEach(x, 8, 0);
        x.apart(6, 7, true);
        due("WRONG 7 of PUPIL 6", x.wrong(), 76);
    }

    void p15_changesNothing() {
        changesNothing(Bench::some, WishSharer::wrong);
        changesNothing(Bench::full, WishSharer::wrong);
    }

    // ---- 16: best

    void p16_noRightOneIsBetter() {
        for (int seed = 0; seed < 60; seed++) {
            WishSharer x = byChance(seed);
            int right = x.plans(0);
            due("seed " + seed + ", best()", x.best(), right > 0 ? 1 : 0);
            due("seed " + seed + ", plans(1)", right > 0 ? x.plans(1) : 0, 0);
            due("seed " + seed + ", wrong()", right > 0 ? x.wrong() : 0, 0);
        }
    }

    /** Three PUPILS and three PROJECTS of all that there may be, told by a number. */
    private static WishSharer byChance(int seed) {
        Random random = new Random(seed);
        WishSharer x = new WishSharer();
        for (int p = 0; p < 3; p++) {
            x.pupil(random.nextInt(4));
        }
        for (int q = 0; q < 3; q++) {
            int least = 1 + random.nextInt(2);
            x.project(random.nextInt(4), least, least + random.nextInt(3), random.nextInt(2), random.nextInt(3));
        }
        for (int p = 0; p < 3; p++) {
            x.wishes(p, 1, random.nextInt(4), random.nextInt(3), random.nextInt(3) - 1);
            x.wish(p, random.nextInt(3));
        }
        x.friends(0, 1 + random.nextInt(2), random.nextBoolean());
        x.apart(1 + random.nextInt(2), 0, random.nextInt(4) == 0);
        x.lots(random.nextInt());
        if (x.best() == 1) {
            x.book();
        }
        return x;
    }

    void p16_ofNothing_thereIsOne() {
        due("best()", new WishSharer().best(), 1);
    }

    void p16_ofNobodyHere_noneHasAProject() {
        WishSharer x = with(2, 1, 1);
        putAll(x, 0, 0);
        x.here(0, false);
        x.here(1, false);
        due("best()", x.best(), 1);
        planIs("none", x, NONE, NONE);
    }

    void p16_noProjects_thereIsNone() {
        due("best()", withPupils(1).best(), 0);
    }

    void p16_noneOffered_thereIsNone_itStays() {
        WishSharer x = with(2, 2, 2);
        putAll(x, 1, NONE);
        x.offered(0, false);
        x.offered(1, false);
        due("best()", x.best(), 0);
        planIs("it stays", x, 1, NONE);
    }

    void p16_asManyPlacesAsPupils_oneLessThereIsNone() {
        WishSharer x = with(5, 5, 1);
        due("five for five", x.best(), 1);
        planIs("each one", x, 0, 1, 2, 3, 4);
        x.offered(4, false);
        due("four for five", x.best(), 0);
        planIs("it stays", x, 0, 1, 2, 3, 4);
        x.here(2, false);
        due("four for four", x.best(), 1);
        planIs("each one", x, 0, 1, NONE, 2, 3);
    }

    void p16_ofEightAndFive() {
        WishSharer x = with(8, 5, 2);
        due("best()", x.best(), 1);
        planIs("two each", x, 0, 0, 1, 1, 2, 2, 3, 3);
        due("none better", x.plans(1), 0);
    }

    /** That best, change and plans take none of the PLANS that have this WRONG: so many are left, this one is the best. */
    private void onlyTheseAreRight(String what, WishSharer x, int right, int... best) {
        due(what + ", plans(0)", x.plans(0), right);
        due(what + ", best()", x.best(), 1);
        planIs(what + ", best()", x, best);
        due(what + ", wrong()", x.wrong(), 0);
        putEach(x, best.length, NONE);
        due(what + ", plans(1)", x.plans(1), right);
        due(what + ", change()", x.change(), 0);
        planIs(what + ", change()", x, best);
    }

    void p16_notOffered_ofEachProject() {
        for (int q = 0; q < 5; q++) {
            WishSharer x = with(1, 5, 1);
            for (int other = 0; other < 5; other++) {
                x.offered(other, other == q);
            }
            onlyTheseAreRight("only " + q, x, 1, q);
        }
    }

    void p16_tooFewAtTheEnd_ofEachProject() {
        for (int q = 0; q < 5; q++) {
            WishSharer x = withPupils(3);
            for (int other = 0; other < 5; other++) {
                x.project(0, other == q ? 2 : 1, 3, 0, 0);
                x.offered(other, other == q || other == (q + 1) % 5);
            }
            // None, three times two, or all three in q.
            int less = Math.min(q, (q + 1) % 5);
            onlyTheseAreRight("2 to 3 in " + q, x, 5, less, less, less);
        }
    }

    void p16_withoutLeader_ofEachPupil() {
        for (int leader = 0; leader < 3; leader++) {
            WishSharer x = withPupils(3);
            x.project(3, 1, 3, 0, leader);
            onlyTheseAreRight("LEADER " + leader, x, 1, 0, 0, 0);
            x.project(0, 1, 3, 0, 0);
            // Four with the LEADER, and all in the other one.
            onlyTheseAreRight("LEADER " + leader, x, 5, 0, 0, 0);
        }
    }

    void p16_withoutSkill_eachBit() {
        for (int bit = 0; bit <= 7; bit++) {
            WishSharer x = new WishSharer();
            x.pupil(255 - (1 << bit));
            x.pupil(1 << bit);
            x.project(0, 1, 2, 1 << bit, 0);
            x.project(0, 1, 2, 0, 0);
            // All but the first one alone in PROJECT 0.
            onlyTheseAreRight("bit " + bit, x, 3, 0, 0);
        }
    }

    void p16_twiceWithoutTwoOfASkill() {
        WishSharer x = new WishSharer();
        x.pupil(1);
        x.pupil(0);
        x.project(2, 1, 1, 1, 0);
        x.project(0, 1, 2, 0, 0);
        // Twice it would need two of the SKILL.
        onlyTheseAreRight("one has it", x, 2, 0, 1);
    }

    void p16_apart_ofEachTwo() {
        for (int a = 0; a < 3; a++) {
            for (int b = a + 1; b < 3; b++) {
                WishSharer x = with(3, 2, 3);
                x.apart(b, a, true);
                int[] best = {0, 0, 0};
                best[b] = 1;
                onlyTheseAreRight(a + " and " + b, x, 4, best);
            }
        }
    }

    void p16_onlyTheLastPlanOfAllIsRight() {
        WishSharer x = withPupils(8);
        for (int q = 0; q < 5; q++) {
            x.project(0, 8, 8, 0, 0);
            x.offered(q, q == 4);
        }
        due("plans(0)", x.plans(0), 1);
        due("best()", x.best(), 1);
        planIs("all in the last", x, 4, 4, 4, 4, 4, 4, 4, 4);
    }

    void p16_none_changesNothing() {
        changesNothing(CasesOfPlans::withoutAnyRightPlan, WishSharer::best);
    }

    /** Some of everything, and two who can't be together in the one PROJECT that is left. */
    private static WishSharer withoutAnyRightPlan() {
        WishSharer x = some();
        x.offered(1, false);
        x.offered(2, false);
        x.offered(3, false);
        return x;
    }

    // ---- 17: plans

    /** Puts each PLAN in turn: so many are RIGHT, and of those one has 0 BETTER ones, one has 1, and so on. */
    void p17_everyRightPlanHasItsPlace() {
        for (int seed = 0; seed < 30; seed++) {
            boolean[] places = new boolean[27];
            int right = 0;
            for (int number = 0; number < 27; number++) {
                WishSharer x = byChance(seed);
                putAll(x, number / 9, number / 3 % 3, number % 3);
                if (x.wrong() == 0) {
                    right++;
                    int better = x.plans(1);
                    no("seed " + seed + ", two have " + better + " BETTER ones", places[better]);
                    places[better] = true;
                }
            }
            due("seed " + seed + ", plans(0)", byChance(seed).plans(0), right);
            for (int place = 0; place < 27; place++) {
                due("seed " + seed + ", one has " + place, places[place] ? 1 : 0, place < right ? 1 : 0);
            }
        }
    }

    void p17_what_0And1Taken_minus1And2Refused() {
        WishSharer x = with(1, 2, 1);
        due("0", x.plans(0), 2);
        due("1", x.plans(1), 2);
        due("-1", x.plans(-1), NONE);
        due("2", x.plans(2), NONE);
        due("least", x.plans(LEAST_INT), NONE);
        due("most", x.plans(MOST_INT), NONE);
    }

    void p17_ofNothing() {
        WishSharer x = new WishSharer();
        due("right", x.plans(0), 1);
        due("better", x.plans(1), 0);
    }

    void p17_nobodyHere_one() {
        WishSharer x = with(8, 5, 8);
        for (int p = 0; p < 8; p++) {
            x.here(p, false);
        }
        due("right", x.plans(0), 1);
        due("better", x.plans(1), 0);
    }

    void p17_noneRight() {
        WishSharer x = with(2, 1, 1);
        due("right", x.plans(0), 0);
        due("better", x.plans(1), 0);
    }

    void p17_allOfEightAndFive() {
        WishSharer x = with(8, 5, 8);
        due("right", x.plans(0), EVERY);
        due("better than none", x.plans(1), EVERY);
        putEach(x, 8, 4);
        due("better than the worst", x.plans(1), EVERY - 1);
        putEach(x, 8, 0);
        due("better than the best", x.plans(1), 0);
        x.put(7, 1);
        due("better than the second", x.plans(1), 1);
    }

    void p17_theBest_noneBetter() {
        WishSharer x = some();
        x.best();
        due("better", x.plans(1), 0);
        WishSharer y = full();
        y.best();
        due("better", y.plans(1), 0);
    }

    void p17_planThatIsNotRight_allMayBeWorse() {
        WishSharer x = with(2, 2, 1);
        wishAll(x, 0, 0);
        wishAll(x, 1, 0);
        putAll(x, 0, 0);
        due("wrong()", x.wrong(), 40);
        due("right", x.plans(0), 2);
        due("better", x.plans(1), 0);
    }

    void p17_planThatIsNotRight_inOneNotOffered() {
        WishSharer x = with(1, 2, 1);
        wishAll(x, 0, 1, 0);
        x.put(0, 1);
        x.offered(1, false);
        due("RANK 1, not offered", x.plans(1), 0);
        x.wishes(0, 1, 2, 0, 1);
        due("RANK 2, not offered", x.plans(1), 1);
    }

    void p17_none_countsAsRank6() {
        WishSharer x = with(2, 5, 1);
        wishAll(x, 0, 0, 1, 2, 3, 4);
        x.wishes(1, 1, 5, 4, -1);
        putAll(x, 0, NONE);
        // No PLAN has a 6.
        due("all are better", x.plans(1), 20);
        x.wishes(1, 2, 0, 0, 0);
        putAll(x, 0, NONE);
        due("as many 6, RANK 1: only the number", x.plans(1), 4);
    }

    void p17_none_isAGreaterNumberThanAny() {
        WishSharer x = with(1, 5, 1);
        due("all five are less", x.plans(1), 5);
        x.put(0, 4);
        due("four are less than the last", x.plans(1), 4);
    }

    void p17_none_griefOf6TimesScoreAnd1() {
        WishSharer x = with(2, 2, 1);
        x.here(1, false);
        x.put(0, 0);
        x.book();
        x.here(1, true);
        wishAll(x, 1, 0, 1);
        // 6 * 6 and 1 for none and PROJECT 0; 6 * 6 and 2 for 0 and 1.
        putAll(x, NONE, 0);
        due("1 and 0 is less by number", x.plans(1), 1);
        putAll(x, NONE, 1);
        due("both are better", x.plans(1), 2);
    }

    void p17_none_noFriendsOfOthersWithNone() {
        WishSharer x = with(2, 1, 2);
        x.friends(0, 1, true);
        due("together is better", x.plans(1), 1);
    }

    void p17_notHere_whatTheyHaveDoesNotCount() {
        WishSharer x = with(3, 2, 3);
        x.friends(0, 2, true);
        x.friends(1, 2, true);
        x.here(2, false);
        putAll(x, 1, 1, 1);
        due("all but itself", x.plans(1), 3);
        putAll(x, 0, 0, 0);
        due("none", x.plans(1), 0);
    }

    void p17_changesNothing() {
        changesNothing(Bench::some, x -> {
            x.plans(0);
            x.plans(1);
            x.plans(2);
            x.plans(-1);
        });
    }

    // ---- 18: worth

    /** PUPILS 0 and 1 in PROJECT 0, 2 and 3 in 2; 4 has none, 5 is not HERE; all but 3 and 5 are FRIENDS. */
    private static WishSharer ofSixWhereFourArePlaced() {
        WishSharer x = with(6, 3, 8);
        wishAll(x, 0, 0);
        wishAll(x, 1, 1, 0);
        wishAll(x, 2, 0, 1, 2);
        wishAll(x, 5, 2);
        for (int a = 0; a < 6; a++) {
            for (int b = 0; b < a; b++) {
                x.friends(a, b, a != 5 || b != 3);
            }
        }
        x.here(5, false);
        putAll(x, 0, 0, 2, 2, NONE, 1);
        return x;
    }

    void p18_ranks_howManyHaveThem() {
        WishSharer x = ofSixWhereFourArePlaced();
        int[] many = {1, 1, 1, 0, 0, 1};
        for (int rank = 1; rank <= 6; rank++) {
            due("worth(" + rank + ")", x.worth(rank), many[rank - 1]);
        }
    }

    void p18_what7_grief() {
        WishSharer x = ofSixWhereFourArePlaced();
        due("RANKS 1, 2, 3, 6", x.worth(7), 12);
        x.put(4, 1);
        x.put(5, NONE);
        due("book()", x.book(), 1);
        putAll(x, 0, 0, 2, 2, NONE, 1);
        due("times SCORE and 1: 1 * 1, 2 * 2, 3 * 3, 6 * 6", x.worth(7), 50);
    }

    void p18_what8_friends() {
        WishSharer x = ofSixWhereFourArePlaced();
        due("a pair in 0, a pair in 2", x.worth(8), 2);
        x.friends(2, 3, false);
        due("a pair in 0", x.worth(8), 1);
        x.put(3, 0);
        due("three pairs in 0", x.worth(8), 3);
    }

    void p18_what9_projectsWithAny() {
        WishSharer x = ofSixWhereFourArePlaced();
        due("0 and 2, not 1 of one who is not HERE", x.worth(9), 2);
        x.here(5, true);
        due("1 too", x.worth(9), 3);
    }

    void p18_onlyThoseHereWithAProject() {
        for (int away = 0; away < 4; away++) {
            WishSharer x = with(4, 1, 8);
            x.friends(0, 1, true);
            x.friends(1, 2, true);
            x.friends(2, 3, true);
            putEach(x, 4, 0);
            x.here(away, false);
            worthIs(away + " not HERE", x, away);
            x.here(away, true);
            x.put(away, NONE);
            worthIs(away + " without", x, away);
        }
    }

    private void worthIs(String what, WishSharer x, int away) {
        due(what + ", RANK 6", x.worth(6), 3);
        due(what + ", GRIEF", x.worth(7), 18);
        due(what + ", FRIENDS", x.worth(8), away == 0 || away == 3 ? 2 : 1);
        due(what + ", PROJECTS", x.worth(9), 1);
    }

    void p18_what_1And9Taken_0And10Refused() {
        WishSharer x = with(1, 1, 1);
        x.wish(0, 0);
        x.put(0, 0);
        due("1", x.worth(1), 1);
        due("9", x.worth(9), 1);
        due("0", x.worth(0), NONE);
        due("10", x.worth(10), NONE);
        due("-1", x.worth(-1), NONE);
        due("least", x.worth(LEAST_INT), NONE);
        due("most", x.worth(MOST_INT), NONE);
    }

    void p18_ofNothing_0() {
        WishSharer x = new WishSharer();
        WishSharer y = full();
        putEach(y, 8, NONE);
        for (int what = 1; what <= 9; what++) {
            due("no PUPILS, worth(" + what + ")", x.worth(what), 0);
            due("none has a PROJECT, worth(" + what + ")", y.worth(what), 0);
        }
    }

    void p18_nobodyHere_0() {
        WishSharer x = full();
        for (int p = 0; p < 8; p++) {
            x.here(p, false);
        }
        for (int what = 1; what <= 9; what++) {
            due("worth(" + what + ")", x.worth(what), 0);
        }
    }

    void p18_eachRank_1To6() {
        for (int rank = 1; rank <= 6; rank++) {
            WishSharer x = with(8, 5, 8);
            for (int p = 0; p < 8; p++) {
                x.wishes(p, 1, rank == 6 ? 4 : 5, 0, 1);
            }
            putEach(x, 8, rank == 6 ? 4 : rank - 1);
            for (int what = 1; what <= 6; what++) {
                due("all of RANK " + rank + ", worth(" + what + ")", x.worth(what), what == rank ? 8 : 0);
            }
            due("GRIEF", x.worth(7), 8 * rank);
        }
    }

    void p18_grief_mostOfAll() {
        WishSharer x = with(8, 1, 8);
        for (int y = 0; y < 60; y++) {
            x.best();
            x.book();
        }
        x.best();
        due("worth(7)", x.worth(7), 8 * 6 * 301);
        due("worth(6)", x.worth(6), 8);
    }

    void p18_friends_mostOfAll() {
        WishSharer x = with(8, 2, 8);
        for (int a = 0; a < 8; a++) {
            for (int b = 0; b < a; b++) {
                x.friends(a, b, true);
            }
        }
        putEach(x, 8, 1);
        due("28 pairs", x.worth(8), 28);
        putAll(x, 0, 0, 0, 0);
        due("6 and 6", x.worth(8), 12);
    }

    void p18_projects_1To5() {
        WishSharer x = with(8, 5, 8);
        putEach(x, 8, 4);
        for (int q = 0; q < 5; q++) {
            x.put(q, q);
            due("worth(9)", x.worth(9), q < 4 ? q + 2 : 5);
        }
    }

    void p18_notRight_allTheSame() {
        WishSharer x = with(2, 1, 1);
        x.friends(0, 1, true);
        x.apart(0, 1, true);
        x.offered(0, false);
        putAll(x, 0, 0);
        due("RANK 6", x.worth(6), 2);
        due("GRIEF", x.worth(7), 12);
        due("FRIENDS", x.worth(8), 1);
        due("PROJECTS", x.worth(9), 1);
    }

    void p18_changesNothing() {
        changesNothing(Bench::some, x -> {
            for (int what = 0; what <= 10; what++) {
                x.worth(what);
            }
        });
    }

    // ---- 19: swap

    /** So many PUPILS, each the PROJECT of its own number modulo 5, that it likes less than the next one's. */
    private static WishSharer crossed(int pupils) {
        WishSharer x = with(pupils, 5, 8);
        for (int p = 0; p < pupils; p++) {
            int own = p % 5;
            int next = p % 2 == 0 ? (p + 1) % 5 : (p + 4) % 5;
            wishAll(x, p, next, own);
            x.put(p, own);
        }
        return x;
    }

    void p19_noPupilsOrOne_none() {
        due("no PUPILS", new WishSharer().swap(), 0);
        WishSharer x = with(1, 2, 1);
        wishAll(x, 0, 1, 0);
        x.put(0, 0);
        due("one PUPIL", x.swap(), 0);
        due("no ROW", x.count(4), 0);
    }

    void p19_firstTwo_0And1() {
        WishSharer x = crossed(4);
        due("swap()", x.swap(), 1);
        rowIs("the first two", x, 0, 1);
    }

    void p19_lastTwo_6And7() {
        WishSharer x = with(8, 2, 8);
        putEach(x, 7, 0);
        x.put(7, 1);
        wishAll(x, 6, 1, 0);
        wishAll(x, 7, 0, 1);
        due("swap()", x.swap(), 1);
        rowIs("the last two", x, 6, 7);
    }

    void p19_bySecondOnesNumber() {
        WishSharer x = with(4, 2, 8);
        putAll(x, 0, 0, 1, 1);
        wishAll(x, 0, 1);
        wishAll(x, 1, 1);
        wishAll(x, 2, 0);
        wishAll(x, 3, 0);
        due("swap()", x.swap(), 1);
        rowIs("0 and 2", x, 0, 2);
        x.wishes(2, 2, 0, 0, 0);
        due("swap()", x.swap(), 1);
        rowIs("0 and 3", x, 0, 3);
        x.wishes(0, 2, 0, 0, 0);
        due("swap()", x.swap(), 1);
        rowIs("1 and 3", x, 1, 3);
    }

    void p19_inOneProject_none() {
        WishSharer x = with(2, 2, 2);
        wishAll(x, 0, 1, 0);
        wishAll(x, 1, 1, 0);
        putAll(x, 0, 0);
        due("both in 0", x.swap(), 0);
        putAll(x, 1, 1);
        due("both in 1", x.swap(), 0);
    }

    void p19_bothMustHaveLess() {
        WishSharer x = with(2, 2, 1);
        putAll(x, 0, 1);
        wishAll(x, 0, 1, 0);
        due("less for 0, as much for 1", x.swap(), 0);
        wishAll(x, 1, 1, 0);
        due("less for 0, more for 1", x.swap(), 0);
        x.wishes(0, 1, 2, 0, 1);
        x.wishes(1, 1, 2, 0, 1);
        due("more for 0, less for 1", x.swap(), 0);
        x.wishes(0, 1, 2, 1, -1);
        due("less for both", x.swap(), 1);
    }

    void p19_thePlanStays() {
        WishSharer x = with(2, 2, 1);
        wishAll(x, 0, 1, 0);
        wishAll(x, 1, 0, 1);
        putAll(x, 0, 1);
        due("swap()", x.swap(), 1);
        planIs("as it was", x, 0, 1);
    }

    void p19_asMuchRankIsNotLess() {
        WishSharer x = with(2, 2, 1);
        putAll(x, 0, 1);
        wishAll(x, 0, 1);
        due("the other has 6 in both", x.swap(), 0);
        x.wish(1, 0);
        due("from 6 to 1 both", x.swap(), 1);
    }

    void p19_from6To5IsLess() {
        WishSharer x = with(2, 5, 1);
        x.offered(4, false);
        x.put(0, 0);
        x.put(1, 1);
        // No row of five leaves a PROJECT out, so RANK 5 is left for 4 at the least.
        wishAll(x, 0, 2, 3, 4, 1);
        wishAll(x, 1, 2, 3, 4, 0);
        due("from 6 to 4", x.swap(), 1);
        x.wish(0, 0);
        due("from 5 to 4", x.swap(), 1);
        x.wishes(0, 2, 0, 0, 0);
        wishAll(x, 0, 2, 3, 4, 0, 1);
        due("from 4 to 5", x.swap(), 0);
    }

    void p19_oneNotHere_none() {
        WishSharer x = crossed(2);
        x.here(1, false);
        due("swap()", x.swap(), 0);
        x.here(1, true);
        x.here(0, false);
        due("swap()", x.swap(), 0);
    }

    void p19_oneWithout_none() {
        WishSharer x = crossed(2);
        x.put(0, NONE);
        due("swap()", x.swap(), 0);
        putAll(x, 0, NONE);
        due("swap()", x.swap(), 0);
    }

    void p19_notRightThen_none() {
        WishSharer x = crossed(3);
        x.apart(0, 2, true);
        x.put(2, 1);
        due("0 comes to 2", x.swap(), 0);
        x.apart(0, 2, false);
        due("it may", x.swap(), 1);
    }

    void p19_rightThenIsEnough() {
        WishSharer x = withPupils(2);
        x.project(3, 1, 1, 0, 1);
        x.project(3, 1, 1, 0, 0);
        wishAll(x, 0, 1);
        wishAll(x, 1, 0);
        putAll(x, 0, 1);
        due("wrong()", x.wrong(), 50);
        due("swap()", x.swap(), 1);
        planIs("THE PLAN is as it was", x, 0, 1);
    }

    void p19_theyAreTheRow() {
        for (int a = 0; a < 8; a++) {
            for (int b = a + 1; b < 8; b++) {
                WishSharer x = with(8, 2, 1);
                for (int p = 0; p < 8; p++) {
                    x.here(p, p == a || p == b);
                }
                x.put(a, 0);
                x.put(b, 1);
                x.wish(a, 1);
                x.wish(b, 0);
                due("swap()", x.swap(), 1);
                rowIs("swap()", x, a, b);
            }
        }
    }

    void p19_none_theRowStays() {
        WishSharer x = crossed(2);
        x.swap();
        putAll(x, 1, 0);
        due("swap()", x.swap(), 0);
        rowIs("as told last", x, 0, 1);
    }

    void p19_none_changesNothing() {
        changesNothing(CasesOfPlans::withNoneToSwap, x -> due("swap()", x.swap(), 0));
    }

    private static WishSharer withNoneToSwap() {
        WishSharer x = some();
        x.best();
        x.here(0, false);
        x.put(0, NONE);
        return x;
    }

    // ---- 20: change

    void p20_ofNothing_0() {
        due("change()", new WishSharer().change(), 0);
    }

    void p20_nobodyHere_0() {
        WishSharer x = with(2, 1, 2);
        putAll(x, 0, 0);
        x.here(0, false);
        x.here(1, false);
        due("change()", x.change(), 0);
        planIs("none", x, NONE, NONE);
    }

    void p20_right_0_itStays() {
        WishSharer x = with(8, 5, 8);
        for (int p = 0; p < 8; p++) {
            wishAll(x, p, 0);
        }
        putEach(x, 8, 4);
        due("change()", x.change(), 0);
        planIs("as it was", x, 4, 4, 4, 4, 4, 4, 4, 4);
    }

    void p20_all8Move() {
        WishSharer x = with(8, 2, 8);
        putEach(x, 8, 0);
        x.offered(0, false);
        due("change()", x.change(), 8);
        planIs("all in the other", x, 1, 1, 1, 1, 1, 1, 1, 1);
    }

    void p20_oneMoves_7Stay() {
        WishSharer x = with(8, 2, 7);
        putEach(x, 8, 1);
        wishAll(x, 5, 0);
        for (int p = 0; p < 8; p++) {
            x.wish(p, 1);
        }
        due("change()", x.change(), 1);
        planIs("the one that wished to", x, 1, 1, 1, 1, 1, 0, 1, 1);
    }

    void p20_fewestMoves_beforeEightOfRank6() {
        WishSharer x = withPupils(8);
        for (int q = 0; q < 3; q++) {
            x.project(0, 8, 8, 0, 0);
        }
        x.offered(2, false);
        // Four move to have all of RANK 6 in 0, five to have all of RANK 1 in 1.
        for (int p = 0; p < 8; p++) {
            x.wish(p, 1);
            x.put(p, p < 4 ? 0 : p < 7 ? 1 : 2);
        }
        due("change()", x.change(), 4);
        planIs("all in 0", x, 0, 0, 0, 0, 0, 0, 0, 0);
    }

    void p20_noMove_fromAnyProjectToABetterOne() {
        for (int had = 0; had < 5; had++) {
            for (int liked = 0; liked < 5; liked++) {
                WishSharer x = with(1, 5, 1);
                x.wish(0, liked);
                x.put(0, had);
                due("had " + had + ", likes " + liked + ", change()", x.change(), 0);
                planIs("had " + had + ", likes " + liked, x, had);
            }
        }
    }

    void p20_whoHadNone_doNotCount() {
        WishSharer x = with(8, 1, 8);
        due("change()", x.change(), 0);
        planIs("all have one", x, 0, 0, 0, 0, 0, 0, 0, 0);
    }

    void p20_whoIsNotHere_doesNotCount() {
        WishSharer x = with(3, 2, 2);
        putAll(x, 0, 0, 1);
        x.here(1, false);
        due("change()", x.change(), 0);
        planIs("it has none then", x, 0, NONE, 1);
    }

    void p20_fewestMovesBeforeTheWorstRanks() {
        WishSharer x = with(3, 3, 2);
        wishAll(x, 0, 0);
        wishAll(x, 1, 1);
        wishAll(x, 2, 2);
        putAll(x, 0, 0, 0);
        due("change()", x.change(), 1);
        planIs("1 has its first, 2 has not", x, 0, 1, 0);
        due("worth(6)", x.worth(6), 1);
    }

    /** Three in PROJECT 0, of which one must move to 1. */
    private static WishSharer whereOneOfThreeMoves() {
        WishSharer x = with(3, 2, 2);
        putEach(x, 3, 0);
        return x;
    }

    void p20_ofSeveralTheBest_byRanks() {
        WishSharer x = whereOneOfThreeMoves();
        for (int p = 0; p < 3; p++) {
            wishAll(x, p, p == 1 ? 1 : 0, p == 1 ? 0 : 1);
        }
        due("change()", x.change(), 1);
        planIs("the one that likes 1 more", x, 0, 1, 0);
    }

    void p20_ofSeveralTheBest_byGrief() {
        WishSharer x = whereOneOfThreeMoves();
        for (int p = 0; p < 3; p++) {
            wishAll(x, p, 0, 1);
        }
        putAll(x, 0, 1, 0);
        due("book()", x.book(), 1);
        putAll(x, 0, 0, 1);
        due("book()", x.book(), 1);
        putEach(x, 3, 0);
        due("change()", x.change(), 1);
        planIs("the one without SCORE", x, 1, 0, 0);
    }

    void p20_ofSeveralTheBest_byFriends() {
        WishSharer x = whereOneOfThreeMoves();
        x.friends(0, 2, true);
        due("change()", x.change(), 1);
        planIs("the one without a FRIEND", x, 0, 1, 0);
    }

    void p20_ofSeveralTheBest_byLots() {
        WishSharer x = whereOneOfThreeMoves();
        due("change()", x.change(), 1);
        planIs("the last one", x, 0, 0, 1);
        putEach(x, 3, 0);
        x.lots(0);
        int last = x.of(0, 6) == 2 ? 0 : x.of(1, 6) == 2 ? 1 : 2;
        due("change()", x.change(), 1);
        due("the last one by LOTS, " + last, x.of(last, 4), 1);
        due("one alone", x.of(0, 4) + x.of(1, 4) + x.of(2, 4), 1);
    }

    void p20_howManyMoved_1To8() {
        for (int many = 1; many <= 8; many++) {
            WishSharer x = withPupils(8);
            x.project(0, 1, 8, 0, 0);
            x.project(0, 1, 8, 0, 0);
            for (int p = 0; p < 8; p++) {
                x.put(p, p < many ? 0 : 1);
            }
            x.offered(0, false);
            due("change()", x.change(), many);
        }
    }

    void p20_noneRight_itStays() {
        WishSharer x = with(3, 2, 1);
        putAll(x, 0, 0, NONE);
        due("change()", x.change(), NONE);
        planIs("as it was", x, 0, 0, NONE);
        due("no PROJECTS", withPupils(1).change(), NONE);
    }

    void p20_none_changesNothing() {
        changesNothing(CasesOfPlans::withoutAnyRightPlan, WishSharer::change);
    }

    // ---- 21: lie

    void p21_pupil_firstAndLastTaken() {
        WishSharer x = with(5, 5, 1);
        due("lie(0)", x.lie(0), 0);
        due("lie(4)", x.lie(4), 0);
    }

    void p21_pupil_firstOfEight_itPays() {
        lieOfTwoOfEightPays(0, 7, 0);
    }

    void p21_pupil_lastOfEight_itPays() {
        lieOfTwoOfEightPays(7, 0, 1);
    }

    /** Two are HERE, like the same two PROJECTS, and the other one is first by LOTS of this seed. */
    private void lieOfTwoOfEightPays(int pupil, int other, int seed) {
        WishSharer x = with(8, 3, 1);
        x.lots(seed);
        due("the other one is first", x.of(other, 6) < x.of(pupil, 6) ? 1 : 0, 1);
        for (int p = 0; p < 8; p++) {
            x.here(p, p == pupil || p == other);
        }
        wishAll(x, pupil, 1, 2);
        wishAll(x, other, 1, 2);
        x.offered(0, false);
        due("lie()", x.lie(pupil), 1);
        rowIs("the first that pays", x, 0, 1, 2);
    }

    void p21_pupil_noneSuch() {
        WishSharer x = with(3, 3, 1);
        int[] none = {-1, 3, 8, LEAST_INT, MOST_INT};
        for (int p : none) {
            due("lie(" + p + ")", x.lie(p), NONE);
        }
        due("no PUPILS", new WishSharer().lie(0), NONE);
        due("8 of eight", with(8, 1, 8).lie(8), NONE);
    }

    void p21_pupil_notHere() {
        WishSharer x = with(2, 2, 1);
        x.here(1, false);
        due("lie(1)", x.lie(1), NONE);
        due("lie(0)", x.lie(0), 0);
    }

    void p21_fiveHereTaken_sixRefused() {
        WishSharer x = with(8, 5, 2);
        due("eight", x.lie(7), NONE);
        x.here(0, false);
        x.here(1, false);
        due("six", x.lie(7), NONE);
        x.here(2, false);
        due("five", x.lie(7), 0);
    }

    void p21_noneSuchBeforeNoPlan() {
        WishSharer x = with(6, 1, 1);
        due("six, no PLAN is RIGHT", x.lie(0), NONE);
        x.here(0, false);
        due("not HERE, no PLAN is RIGHT", x.lie(0), NONE);
        due("none such, no PLAN is RIGHT", x.lie(6), NONE);
    }

    void p21_noPlanIsRight_minus2() {
        WishSharer x = with(2, 1, 1);
        due("one place for two", x.lie(0), -2);
        due("no PROJECTS", withPupils(1).lie(0), -2);
        x.project(0, 1, 1, 0, 0);
        x.offered(1, false);
        due("not offered", x.lie(0), -2);
        x.offered(1, true);
        due("now there is one", x.lie(0), 0);
    }

    void p21_oneProject_noRowPays() {
        WishSharer x = with(1, 1, 1);
        due("RANK 6", x.lie(0), 0);
        x.wish(0, 0);
        due("RANK 1", x.lie(0), 0);
        due("no ROW", x.count(4), 0);
    }

    void p21_withoutWishes_noRowPays() {
        WishSharer x = with(5, 5, 1);
        for (int p = 1; p < 5; p++) {
            x.wishes(p, 1, 5, 0, 1);
        }
        x.best();
        due("it gets what is left", x.of(0, 5), 6);
        due("lie(0)", x.lie(0), 0);
    }

    void p21_ofTwoProjects() {
        WishSharer x = with(2, 2, 1);
        wishAll(x, 0, 1, 0);
        wishAll(x, 1, 1, 0);
        x.best();
        planIs("by LOTS", x, 1, 0);
        due("RANKS 1 and 2 are told as they are", x.lie(1), 0);
        x.project(0, 1, 1, 0, 0);
        x.offered(2, false);
        due("with a third one RANK 3 can be told", x.lie(1), 1);
        rowIs("the first that pays", x, 1, 2, 0);
    }

    /** Two who like the other one's PROJECT second, each of a size of both. */
    private static WishSharer whereTheFirstRowPays() {
        WishSharer x = withPupils(2);
        x.project(0, 2, 2, 0, 0);
        x.project(0, 1, 2, 0, 0);
        x.project(0, 1, 2, 0, 0);
        x.project(0, 2, 2, 0, 0);
        x.project(0, 1, 1, 0, 0);
        wishAll(x, 0, 3, 0);
        wishAll(x, 1, 0, 3);
        return x;
    }

    private static WishSharer whereTheLastRowPays() {
        WishSharer x = withPupils(3);
        x.project(0, 1, 2, 0, 0);
        x.project(0, 2, 2, 0, 0);
        x.project(0, 1, 1, 0, 0);
        x.project(0, 1, 1, 0, 0);
        x.project(0, 1, 1, 0, 0);
        x.offered(3, false);
        wishAll(x, 0, 3, 2, 1, 0, 4);
        wishAll(x, 1, 3, 4, 2);
        wishAll(x, 2, 4, 3, 0);
        return x;
    }

    /** All rows of so many PROJECTS, by the first one that is not alike, the less number. */
    private static List<int[]> allRows(int projects) {
        List<int[]> rows = new ArrayList<>();
        addRows(rows, new int[projects], 0);
        return rows;
    }

    private static void addRows(List<int[]> rows, int[] row, int place) {
        if (place == row.length) {
            rows.add(row.clone());
            return;
        }
        for (int q = 0; q < row.length; q++) {
            boolean was = false;
            for (int i = 0; i < place; i++) {
                was |= row[i] == q;
            }
            if (!was) {
                row[place] = q;
                addRows(rows, row, place + 1);
            }
        }
    }

    /** Tells all rows in earnest, in their order, up to the first by which best() gives less RANK; else an empty one. */
    private static int[] firstThatPays(Supplier<WishSharer> begin, int pupil) {
        WishSharer honest = begin.get();
        honest.best();
        int rank = honest.of(pupil, 5);
        for (int[] row : allRows(honest.count(1))) {
            WishSharer x = begin.get();
            x.wishes(pupil, 2, 0, 0, 0);
            wishAll(x, pupil, row);
            if (x.best() == 1 && honest.rank(pupil, x.of(pupil, 4)) < rank) {
                return row;
            }
        }
        return new int[0];
    }

    private void toldInEarnestPays(Supplier<WishSharer> begin, int pupil, int... row) {
        int[] first = firstThatPays(begin, pupil);
        yes("told in earnest, " + Arrays.toString(first), Arrays.equals(first, row));
    }

    void p21_theFirstRowOfAllPays() {
        WishSharer x = whereTheFirstRowPays();
        toldInEarnestPays(CasesOfPlans::whereTheFirstRowPays, 1, 0, 1, 2, 3, 4);
        due("lie(1)", x.lie(1), 1);
        rowIs("the first of 120", x, 0, 1, 2, 3, 4);
    }

    void p21_theLastRowOfAllPays() {
        WishSharer x = whereTheLastRowPays();
        toldInEarnestPays(CasesOfPlans::whereTheLastRowPays, 2, 4, 3, 2, 1, 0);
        due("lie(2)", x.lie(2), 1);
        rowIs("the last of 120", x, 4, 3, 2, 1, 0);
    }

    void p21_noRowPays() {
        WishSharer x = whereTheLastRowPays();
        toldInEarnestPays(CasesOfPlans::whereTheLastRowPays, 0);
        due("lie(0)", x.lie(0), 0);
    }

    /** Five PUPILS, one perhaps not HERE, and three to five PROJECTS, told by a number. */
    private static WishSharer whereSomeLiesPay(int seed) {
        Random random = new Random(seed);
        WishSharer x = withPupils(5);
        int projects = 3 + random.nextInt(3);
        for (int q = 0; q < projects; q++) {
            x.project(random.nextInt(3), 1, 1 + random.nextInt(2), 0, 0);
        }
        for (int p = 0; p < 5; p++) {
            for (int i = 0; i < 4; i++) {
                x.wish(p, random.nextInt(projects));
            }
        }
        x.friends(0, 1, true);
        x.here(4, seed % 4 != 0);
        x.lots(seed);
        return x;
    }

    void p21_rowsInTheirOrder_manyByChance() {
        int paid = 0;
        for (int seed = 0; seed < 200; seed++) {
            int told = seed;
            int pupil = seed % 3;
            int[] row = firstThatPays(() -> whereSomeLiesPay(told), pupil);
            WishSharer x = whereSomeLiesPay(seed);
            int due = row.length > 0 ? 1 : x.plans(0) > 0 ? 0 : -2;
            due("number " + seed + ", lie(" + pupil + ")", x.lie(pupil), due);
            rowIs("number " + seed, x, row);
            paid += row.length > 0 ? 1 : 0;
        }
        yes("some pay, some do not: " + paid, paid >= 10 && paid <= 190);
    }

    void p21_lessRankByItsOwnWishes_notByTheRowTold() {
        WishSharer x = with(2, 3, 1);
        wishAll(x, 0, 0, 1);
        wishAll(x, 1, 0, 1);
        // Told first, 1 and 2 are its, but by its own WISHES of RANK 2 and 6; that is what it has, or more.
        due("lie(1)", x.lie(1), 0);
    }

    void p21_itIsTheRow_ofThreeToFive() {
        int[] row = {0, 2, 1, 3, 4};
        for (int projects = 3; projects <= 5; projects++) {
            WishSharer x = with(2, projects, 1);
            wishAll(x, 0, 0, 1);
            wishAll(x, 1, 0, 1);
            for (int q = 2; q < projects; q++) {
                x.offered(q, false);
            }
            due(projects + " PROJECTS, lie(1)", x.lie(1), 1);
            rowIs(projects + " PROJECTS", x, Arrays.copyOf(row, projects));
        }
    }

    void p21_rowHasThoseNotOfferedToo() {
        WishSharer x = whereARowOfFivePays();
        due("lie(1)", x.lie(1), 1);
        rowIs("five", x, 0, 2, 1, 3, 4);
    }

    void p21_pays_wishesAndPlanStay() {
        WishSharer x = with(2, 3, 1);
        wishAll(x, 0, 0, 1);
        wishAll(x, 1, 0, 1);
        putAll(x, 2, NONE);
        x.offered(2, false);
        due("lie(1)", x.lie(1), 1);
        wishesAre("its own", x, 1, 0, 1);
        wishesAre("the other's", x, 0, 0, 1);
        planIs("as it was", x, 2, NONE);
    }

    void p21_paysNot_changesNothing() {
        changesNothing(Bench::some, x -> due("lie(3)", x.lie(3), 0));
    }

    void p21_refused_changesNothing() {
        changesNothing(Bench::some, x -> {
            due("lie(4)", x.lie(4), NONE);
            due("lie(-1)", x.lie(-1), NONE);
        });
        changesNothing(Bench::full, x -> due("lie(0)", x.lie(0), NONE));
    }

    void p21_noPlan_changesNothing() {
        changesNothing(CasesOfPlans::withoutAnyRightPlan, x -> due("lie(0)", x.lie(0), -2));
    }
}
