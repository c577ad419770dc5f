/** Cases of promises 22 to 25, years: a case a sentence, told by its name. */
final class CasesOfYears extends Bench {
    CasesOfYears(Checks checks) {
        super(checks);
    }

    /** One PUPIL, one PROJECT, so many years that were booked, of RANK 6 each. */
    private static WishSharer withYears(int years) {
        WishSharer x = with(1, 1, 1);
        for (int y = 0; y < years; y++) {
            x.put(0, 0);
            x.book();
        }
        return x;
    }

    /** Eight PUPILS who all have WISHES 0 .. 4, in years in which each had another PROJECT than the year before. */
    private static WishSharer whereAllGoRound(int years) {
        WishSharer x = with(8, 5, 8);
        for (int p = 0; p < 8; p++) {
            x.wishes(p, 1, 5, 0, 1);
        }
        for (int y = 0; y < years; y++) {
            for (int p = 0; p < 8; p++) {
                x.put(p, projectThen(y, p));
            }
            x.book();
        }
        return x;
    }

    private static int projectThen(int year, int pupil) {
        return (year + pupil * 2) % 5;
    }

    // ---- 22: book

    void p22_ofNothing_isRight() {
        WishSharer x = new WishSharer();
        due("book()", x.book(), 1);
        due("count(3)", x.count(3), 1);
    }

    void p22_sixtyOfNothing() {
        WishSharer x = new WishSharer();
        for (int y = 1; y <= 60; y++) {
            due("book()", x.book(), 1);
            due("count(3)", x.count(3), y);
        }
        due("one more", x.book(), NONE);
    }

    void p22_sixtiethTaken_nextRefused() {
        WishSharer x = withYears(59);
        x.put(0, 0);
        due("the sixtieth", x.book(), 1);
        due("count(3)", x.count(3), 60);
        x.put(0, 0);
        due("one more", x.book(), NONE);
        due("count(3)", x.count(3), 60);
    }

    void p22_sixty_askedBeforeRight() {
        WishSharer x = withYears(60);
        due("wrong()", x.wrong(), 10);
        due("book()", x.book(), NONE);
    }

    void p22_sixty_theRefusedOneChangesNothing() {
        WishSharer x = withYears(60);
        x.put(0, 0);
        due("book()", x.book(), NONE);
        planIs("it stays", x, 0);
        due("of(0, 3)", x.of(0, 3), 300);
        due("year(59, 0)", x.year(59, 0), 6);
        due("year(60, 0)", x.year(60, 0), NONE);
        due("worth(7)", x.worth(7), 6 * 301);
    }

    void p22_sixty_takenBackOneThenOneMore() {
        WishSharer x = withYears(60);
        due("undo()", x.undo(), 59);
        due("book()", x.book(), 1);
        due("book() again", x.book(), NONE);
    }

    void p22_notRight_0() {
        WishSharer x = with(2, 1, 1);
        due("none has one", x.book(), 0);
        putAll(x, 0, 0);
        due("too many", x.book(), 0);
        planIs("it stays", x, 0, 0);
        due("count(3)", x.count(3), 0);
        due("of(0, 3)", x.of(0, 3), 0);
    }

    void p22_notRight_changesNothing() {
        changesNothing(CasesOfYears::withoutRightPlan, x -> due("book()", x.book(), 0));
    }

    private static WishSharer withoutRightPlan() {
        WishSharer x = some();
        x.put(0, NONE);
        return x;
    }

    void p22_score_rank1Adds0_rank6Adds5() {
        WishSharer x = with(8, 5, 8);
        for (int p = 0; p < 6; p++) {
            if (p < 5) {
                x.wishes(p, 1, 5, 0, 1);
            }
            x.put(p, p < 5 ? p : 0);
        }
        x.here(6, false);
        x.here(7, false);
        due("book()", x.book(), 1);
        for (int p = 0; p < 6; p++) {
            due("of(" + p + ", 3)", x.of(p, 3), p);
        }
        due("one not HERE", x.of(6, 3), 0);
        due("one not HERE", x.of(7, 3), 0);
    }

    void p22_noneHasAProjectThen() {
        WishSharer x = with(8, 1, 8);
        putEach(x, 8, 0);
        due("book()", x.book(), 1);
        planIs("none", x, NONE, NONE, NONE, NONE, NONE, NONE, NONE, NONE);
    }

    void p22_byThePlanOfNow_whichNeedNotBeTheBest() {
        WishSharer x = with(2, 2, 1);
        wishAll(x, 0, 0, 1);
        wishAll(x, 1, 1, 0);
        putAll(x, 1, 0);
        due("one is better", x.plans(1), 1);
        due("book()", x.book(), 1);
        due("year(0, 0)", x.year(0, 0), 2);
        due("year(0, 1)", x.year(0, 1), 2);
        due("of(0, 3)", x.of(0, 3), 1);
        due("of(1, 3)", x.of(1, 3), 1);
    }

    void p22_theNextYear() {
        WishSharer x = withYears(2);
        due("count(3)", x.count(3), 2);
        x.put(0, 0);
        due("book()", x.book(), 1);
        due("count(3)", x.count(3), 3);
        due("year(2, 0)", x.year(2, 0), 6);
    }

    void p22_theRowStays() {
        WishSharer x = with(2, 2, 1);
        wishAll(x, 0, 1);
        wishAll(x, 1, 0);
        putAll(x, 0, 1);
        x.swap();
        x.book();
        rowIs("as told last", x, 0, 1);
    }

    // ---- 23: year

    void p23_y_0AndLastTaken_minus1AndNextRefused() {
        WishSharer x = withYears(3);
        due("year(0, 0)", x.year(0, 0), 6);
        due("year(2, 0)", x.year(2, 0), 6);
        due("year(-1, 0)", x.year(-1, 0), NONE);
        due("year(3, 0)", x.year(3, 0), NONE);
        due("year(least, 0)", x.year(LEAST_INT, 0), NONE);
        due("year(most, 0)", x.year(MOST_INT, 0), NONE);
    }

    void p23_y_59OfSixtyTaken_60Refused() {
        WishSharer x = withYears(60);
        due("year(59, 0)", x.year(59, 0), 6);
        due("year(60, 0)", x.year(60, 0), NONE);
    }

    void p23_noYears() {
        WishSharer x = with(1, 1, 1);
        due("year(0, 0)", x.year(0, 0), NONE);
        due("year(-1, 0)", x.year(-1, 0), NONE);
    }

    void p23_pupil_firstAndLastTaken_outsideRefused() {
        WishSharer x = with(8, 1, 8);
        putEach(x, 8, 0);
        x.book();
        due("year(0, 0)", x.year(0, 0), 6);
        due("year(0, 7)", x.year(0, 7), 6);
        due("year(0, -1)", x.year(0, -1), NONE);
        due("year(0, 8)", x.year(0, 8), NONE);
        due("year(0, least)", x.year(0, LEAST_INT), NONE);
        due("year(0, most)", x.year(0, MOST_INT), NONE);
    }

    void p23_pupil_noneSuch() {
        WishSharer x = new WishSharer();
        x.book();
        due("no PUPILS", x.year(0, 0), NONE);
        x.pupil(0);
        due("1 of one", x.year(0, 1), NONE);
    }

    void p23_notHere_0() {
        WishSharer x = with(2, 1, 2);
        x.put(0, 0);
        x.here(1, false);
        x.book();
        due("year(0, 1)", x.year(0, 1), 0);
        x.here(1, true);
        due("HERE now", x.year(0, 1), 0);
    }

    void p23_notThere_0() {
        WishSharer x = withYears(1);
        x.pupil(0);
        due("year(0, 1)", x.year(0, 1), 0);
        x.put(0, 0);
        x.here(1, false);
        x.book();
        due("there, not HERE", x.year(1, 1), 0);
    }

    void p23_eachRank_1To6_ofThen() {
        WishSharer x = with(6, 5, 8);
        for (int p = 0; p < 6; p++) {
            x.wishes(p, p < 5 ? 1 : 2, 5, 0, 1);
            x.put(p, p < 5 ? p : 4);
        }
        x.book();
        for (int p = 0; p < 6; p++) {
            x.wishes(p, 1, 5, 4, -1);
            due("year(0, " + p + ")", x.year(0, p), p + 1);
        }
    }

    void p23_eachYearAndPupilForItself() {
        WishSharer x = whereAllGoRound(20);
        for (int y = 0; y < 20; y++) {
            for (int p = 0; p < 8; p++) {
                due("year(" + y + ", " + p + ")", x.year(y, p), projectThen(y, p) + 1);
            }
        }
    }

    void p23_hereThenNotHereNow() {
        WishSharer x = withYears(1);
        x.here(0, false);
        due("year(0, 0)", x.year(0, 0), 6);
    }

    // ---- 24: undo

    void p24_noYear_refused() {
        due("of a new one", new WishSharer().undo(), NONE);
        WishSharer x = with(2, 1, 2);
        putAll(x, 0, 0);
        due("undo()", x.undo(), NONE);
        planIs("it stays", x, 0, 0);
        due("count(3)", x.count(3), 0);
    }

    void p24_backToYear0_thenNone() {
        WishSharer x = withYears(2);
        due("undo()", x.undo(), 1);
        due("count(3)", x.count(3), 1);
        due("undo()", x.undo(), 0);
        due("count(3)", x.count(3), 0);
        due("undo()", x.undo(), NONE);
        due("count(3)", x.count(3), 0);
        due("of(0, 3)", x.of(0, 3), 0);
        planIs("of the first year", x, 0);
    }

    void p24_noYearLeft_changesNothing() {
        changesNothing(CasesOfYears::withYearTakenBack, x -> due("undo()", x.undo(), NONE));
    }

    private static WishSharer withYearTakenBack() {
        WishSharer x = some();
        x.undo();
        return x;
    }

    void p24_sixtyBack() {
        WishSharer x = withYears(60);
        for (int y = 59; y >= 0; y--) {
            due("undo()", x.undo(), y);
            due("of(0, 3)", x.of(0, 3), 5 * y);
        }
        due("one more", x.undo(), NONE);
    }

    void p24_scores_rank1TakesBack0_rank6TakesBack5() {
        WishSharer x = with(6, 5, 8);
        for (int p = 0; p < 6; p++) {
            x.wishes(p, p < 5 ? 1 : 2, 5, 0, 1);
            x.put(p, 0);
        }
        x.book();
        for (int p = 0; p < 6; p++) {
            x.put(p, p < 5 ? p : 4);
        }
        x.book();
        due("of(4, 3)", x.of(4, 3), 4);
        due("of(5, 3)", x.of(5, 3), 10);
        for (int p = 0; p < 6; p++) {
            // What its RANKS are now does not matter.
            x.wishes(p, 1, 5, 4, -1);
        }
        due("undo()", x.undo(), 1);
        for (int p = 0; p < 6; p++) {
            due("of(" + p + ", 3)", x.of(p, 3), p < 5 ? 0 : 5);
        }
    }

    void p24_plan_ofThen_whoWasNotHereHasNone() {
        WishSharer x = with(3, 2, 2);
        x.here(1, false);
        putAll(x, 1, NONE, 0);
        x.book();
        x.here(1, true);
        putAll(x, 0, 0, 1);
        due("undo()", x.undo(), 0);
        planIs("of then", x, 1, NONE, 0);
        due("HERE as now", x.of(1, 1), 1);
        due("wrong()", x.wrong(), 11);
    }

    void p24_plan_eachYearAndPupilForItself() {
        WishSharer x = whereAllGoRound(20);
        for (int y = 19; y >= 0; y--) {
            due("undo()", x.undo(), y);
            for (int p = 0; p < 8; p++) {
                due("year " + y + " of(" + p + ", 4)", x.of(p, 4), projectThen(y, p));
            }
        }
    }

    void p24_plan_whoCameLaterHasNone() {
        WishSharer x = withYears(1);
        for (int p = 1; p < 8; p++) {
            x.pupil(0);
            x.put(p, 0);
        }
        due("undo()", x.undo(), 0);
        planIs("of then", x, 0, NONE, NONE, NONE, NONE, NONE, NONE, NONE);
    }

    void p24_plan_ofNobodyThen() {
        WishSharer x = new WishSharer();
        x.book();
        x.pupil(0);
        x.project(0, 1, 1, 0, 0);
        x.put(0, 0);
        due("undo()", x.undo(), 0);
        planIs("none", x, NONE);
    }

    void p24_bookedAnew_theOldYearIsGone() {
        WishSharer x = with(2, 2, 2);
        putAll(x, 0, 0);
        x.book();
        due("undo()", x.undo(), 0);
        due("year(0, 0)", x.year(0, 0), NONE);
        x.wishes(0, 1, 2, 0, 1);
        x.here(1, false);
        putAll(x, 1, NONE);
        due("book()", x.book(), 1);
        due("year(0, 0)", x.year(0, 0), 2);
        due("year(0, 1)", x.year(0, 1), 0);
        due("of(0, 3)", x.of(0, 3), 1);
        due("of(1, 3)", x.of(1, 3), 0);
    }

    void p24_lotsWishesRowStay() {
        WishSharer x = with(2, 2, 1);
        putAll(x, 0, 1);
        x.book();
        x.lots(0);
        wishAll(x, 0, 1);
        wishAll(x, 1, 0);
        putAll(x, 0, 1);
        x.swap();
        due("undo()", x.undo(), 0);
        due("of(1, 6)", x.of(1, 6), 0);
        wishesAre("as now", x, 0, 1);
        rowIs("as told last", x, 0, 1);
    }

    // ---- 25: row

    void p25_empty_throws() {
        WishSharer x = new WishSharer();
        noRow(x, 0);
        noRow(x, -1);
        noRow(x, LEAST_INT);
        noRow(x, MOST_INT);
    }

    void p25_ofTwo_0And1Taken_minus1And2Throw() {
        WishSharer x = some();
        due("count(4)", x.count(4), 2);
        due("row(0)", x.row(0), 0);
        due("row(1)", x.row(1), 2);
        noRow(x, -1);
        noRow(x, 2);
        noRow(x, LEAST_INT);
        noRow(x, MOST_INT);
    }

    void p25_ofFive_4Taken_5Throws() {
        WishSharer x = whereARowOfFivePays();
        due("lie(1)", x.lie(1), 1);
        due("row(4)", x.row(4), 4);
        noRow(x, 5);
        noRow(x, -1);
    }

    void p25_aShorterRowAfterALonger_itsEndThrows() {
        WishSharer x = whereARowOfFivePays();
        due("lie(1)", x.lie(1), 1);
        x.wishes(0, 1, 1, 1, 0);
        x.wishes(1, 1, 1, 0, 0);
        putAll(x, 0, 1);
        due("swap()", x.swap(), 1);
        rowIs("two", x, 0, 1);
        noRow(x, 3);
        noRow(x, 4);
    }

    void p25_thrownChangesNothing() {
        changesNothing(Bench::some, x -> {
            noRow(x, 2);
            noRow(x, -1);
        });
    }
}
