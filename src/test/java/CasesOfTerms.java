/** Cases of 'What it is' (w) and of the two 'Terms' (t1, t2): a case a sentence, told by its name. */
final class CasesOfTerms extends Bench {
    CasesOfTerms(Checks checks) {
        super(checks);
    }

    // ---- What it is

    void w_call512IsAnsweredAsDue() {
        WishSharer x = with(1, 1, 1);
        int calls = 2;
        while (calls < 512) {
            due("best() after " + calls, x.best(), 1);
            due("book() after " + calls, x.book(), 1);
            due("undo() after " + calls, x.undo(), 0);
            calls += 3;
        }
        due("calls", calls, 512);
    }

    void w_call512IsAnsweredAsDue_withAllThereMayBe() {
        WishSharer x = with(8, 5, 8);
        int calls = 13;
        for (int y = 0; y < 60; y++) {
            due("best()", x.best(), 1);
            due("book()", x.book(), 1);
            calls += 2;
        }
        for (; calls < 511; calls++) {
            due("of(" + calls % 8 + ", 3)", x.of(calls % 8, 3), 300);
        }
        due("call 512", x.plans(0), 390625);
    }

    void w_sharesOutProjects() {
        WishSharer x = with(3, 3, 1);
        wishAll(x, 0, 2);
        wishAll(x, 1, 0);
        wishAll(x, 2, 1);
        due("best()", x.best(), 1);
        planIs("each its first", x, 2, 0, 1);
    }

    void w_pupils_wishesSkillsFriendsThoseTheyMustNotBeWith() {
        WishSharer x = new WishSharer();
        due("pupil(5)", x.pupil(5), 0);
        due("pupil(0)", x.pupil(0), 1);
        x.project(0, 1, 2, 4, 0);
        due("wish(0, 0)", x.wish(0, 0), 1);
        yes("friends(0, 1, true)", x.friends(0, 1, true));
        putAll(x, 0, 0);
        due("WISHES", x.worth(1), 1);
        due("FRIENDS", x.worth(8), 1);
        due("SKILLS", x.wrong(), 0);
        yes("apart(0, 1, true)", x.apart(0, 1, true));
        due("APART", x.wrong(), 70);
    }

    void w_projects_kindsSizesSkills() {
        WishSharer x = withPupils(3);
        x.project(0, 1, 3, 0, 0);
        x.project(1, 1, 3, 0, 0);
        x.project(0, 1, 2, 0, 0);
        x.project(0, 1, 3, 1, 0);
        int[] wrong = {0, 41, 42, 63};
        for (int q = 0; q < 4; q++) {
            putEach(x, 3, q);
            due("all three in " + q, x.wrong(), wrong[q]);
        }
    }

    void w_best_theWorstWishesFirst() {
        WishSharer x = withTwoPlans(3);
        wishForTwo(x, 0, 1, 2);
        wishForTwo(x, 1, 1, 2);
        wishForTwo(x, 2, 3, 2);
        due("best()", x.best(), 1);
        planIs("three of RANK 2, not one of 3", x, 1, 1, 1);
    }

    void w_best_thoseWhoFaredIllCountMore() {
        WishSharer x = with(2, 2, 1);
        wishAll(x, 0, 0, 1);
        wishAll(x, 1, 0, 1);
        x.best();
        planIs("the first year", x, 0, 1);
        x.book();
        x.best();
        planIs("the second year", x, 1, 0);
    }

    void w_best_friends() {
        WishSharer x = with(4, 2, 2);
        x.best();
        planIs("without FRIENDS", x, 0, 0, 1, 1);
        x.friends(3, 0, true);
        x.best();
        planIs("with FRIENDS", x, 0, 1, 1, 0);
    }

    void w_best_thenLots() {
        WishSharer x = with(2, 2, 1);
        wishAll(x, 0, 0, 1);
        wishAll(x, 1, 0, 1);
        x.best();
        planIs("0 is first", x, 0, 1);
        x.lots(0);
        x.best();
        planIs("1 is first", x, 1, 0);
    }

    void w_whyAPlanIsNone() {
        WishSharer x = with(2, 1, 1);
        putAll(x, 0, 0);
        due("two in a PROJECT for one", x.wrong(), 40);
        due("best()", x.best(), 0);
        x.put(1, NONE);
        due("one without a PROJECT", x.wrong(), 11);
    }

    void w_howManyAreBetter() {
        WishSharer x = with(2, 2, 2);
        putAll(x, 1, 1);
        due("of the last one", x.plans(1), 3);
        x.best();
        due("of the best one", x.plans(1), 0);
    }

    void w_whoWouldChangePlaces() {
        WishSharer x = with(3, 3, 1);
        putAll(x, 0, 1, 2);
        wishAll(x, 0, 2, 0);
        wishAll(x, 1, 2, 1);
        wishAll(x, 2, 1, 2);
        due("swap()", x.swap(), 1);
        rowIs("each likes the other's more", x, 1, 2);
    }

    void w_whatALateLeaverMoves() {
        WishSharer x = withPupils(5);
        x.project(0, 2, 3, 0, 0);
        x.project(0, 2, 3, 0, 0);
        wishAll(x, 3, 0);
        putAll(x, 0, 0, 1, 1, 1);
        due("change() before", x.change(), 0);
        x.here(0, false);
        due("change()", x.change(), 1);
        planIs("the one that wished to has moved", x, NONE, 0, 1, 0, 1);
    }

    void w_whetherALieWouldHavePaid() {
        WishSharer x = with(2, 3, 1);
        wishAll(x, 0, 0, 1);
        wishAll(x, 1, 0, 1);
        x.offered(2, false);
        due("lie(0)", x.lie(0), 0);
        due("lie(1)", x.lie(1), 1);
        rowIs("what it would have told", x, 0, 2, 1);
    }

    void w_yearsBooked() {
        WishSharer x = with(1, 1, 1);
        x.best();
        due("book()", x.book(), 1);
        due("count(3)", x.count(3), 1);
        due("year(0, 0)", x.year(0, 0), 6);
        due("undo()", x.undo(), 0);
        due("year(0, 0)", x.year(0, 0), NONE);
    }

    // ---- Terms 1: what there is

    void t1_pupils_from0On_atMost8() {
        WishSharer x = new WishSharer();
        for (int p = 0; p < 8; p++) {
            noOf(x, p, 0);
            due("PUPIL", x.pupil(10 + p), p);
            due("of(" + p + ", 0)", x.of(p, 0), 10 + p);
        }
        due("a ninth", x.pupil(0), NONE);
        noOf(x, 8, 0);
        due("the first as it was", x.of(0, 0), 10);
    }

    void t1_here_orNot_eachForItself() {
        for (int away = 0; away < 8; away++) {
            WishSharer x = withPupils(8);
            x.here(away, false);
            for (int p = 0; p < 8; p++) {
                due(away + " is not, of(" + p + ", 1)", x.of(p, 1), p == away ? 0 : 1);
            }
        }
    }

    void t1_wishes_aRowOfUnlikeProjects() {
        WishSharer x = with(2, 5, 1);
        int[] told = {3, 3, 1, 3, 4, 1, 4};
        for (int q : told) {
            x.wish(0, q);
        }
        wishesAre("one by one", x, 0, 3, 1, 4);
        for (int step = -5; step <= 5; step++) {
            int taken = x.wishes(1, 1, 20, 2, step);
            int unlike = 0;
            for (int q = 0; q < 5; q++) {
                unlike += x.rank(1, q) < 6 ? 1 : 0;
            }
            due("from a sheet, step " + step, unlike, taken);
        }
    }

    void t1_projects_from0On_atMost5() {
        WishSharer x = withPupils(1);
        for (int q = 0; q < 5; q++) {
            due("rank(0, " + q + ")", x.rank(0, q), NONE);
            due("PROJECT", x.project(0, 1, 1, 0, 0), q);
            due("rank(0, " + q + ")", x.rank(0, q), 6);
        }
        due("a sixth", x.project(0, 1, 1, 0, 0), NONE);
        due("rank(0, 5)", x.rank(0, 5), NONE);
    }

    void t1_offered_orNot_eachForItself() {
        for (int taken = 0; taken < 5; taken++) {
            WishSharer x = with(1, 5, 1);
            x.offered(taken, false);
            for (int q = 0; q < 5; q++) {
                x.put(0, q);
                due(taken + " is not, wrong() in " + q, x.wrong(), q == taken ? 30 + q : 0);
            }
        }
    }

    void t1_kind_eachProjectItsOwn() {
        WishSharer x = withPupils(3);
        for (int kind = 0; kind <= 3; kind++) {
            x.project(kind, 1, 2, 0, 1);
        }
        int[] threeWrong = {40, 41, 0, 43};
        for (int q = 0; q <= 3; q++) {
            putEach(x, 3, q);
            due("three in KIND " + q, x.wrong(), threeWrong[q]);
        }
        x.here(1, false);
        x.here(2, false);
        putAll(x, 0, NONE, NONE);
        int[] oneWrong = {0, 41, 0, 53};
        for (int q = 0; q <= 3; q++) {
            x.put(0, q);
            due("one in KIND " + q, x.wrong(), oneWrong[q]);
        }
    }

    void t1_leastAndMost_1To8_leastNotAboveMost() {
        for (int least = -1; least <= 10; least++) {
            for (int most = -1; most <= 10; most++) {
                WishSharer x = withPupils(1);
                boolean sizes = 1 <= least && least <= most && most <= 8;
                due(least + " to " + most, x.project(0, least, most, 0, 0), sizes ? 0 : NONE);
            }
        }
    }

    void t1_neededSkills_eachSetOfBits() {
        for (int needed = 0; needed <= 255; needed++) {
            WishSharer x = new WishSharer();
            x.pupil(needed);
            x.pupil(needed & needed - 1);
            x.project(0, 1, 1, needed, 0);
            x.project(0, 1, 1, 0, 0);
            putAll(x, 0, 1);
            due(needed + " are there", x.wrong(), 0);
            putAll(x, 1, 0);
            due(needed + " but for one are there", x.wrong(), needed == 0 ? 0 : 60);
        }
    }

    void t1_leader_eachProjectItsOwn() {
        WishSharer x = withPupils(8);
        int[] leaders = {3, 0, 7, 5, 3};
        for (int leader : leaders) {
            x.project(3, 1, 1, 0, leader);
        }
        for (int p = 0; p < 8; p++) {
            x.here(p, false);
        }
        for (int p = 0; p < 8; p++) {
            x.here(p, true);
            for (int q = 0; q < 5; q++) {
                x.put(p, q);
                due(p + " alone in " + q, x.wrong(), p == leaders[q] ? 0 : 50 + q);
            }
            x.put(p, NONE);
            x.here(p, false);
        }
    }

    void t1_friendsAndApart_eachTwoForThemselves() {
        WishSharer x = with(3, 2, 3);
        x.friends(0, 1, true);
        x.apart(1, 2, true);
        int[] alone = {2, 0, 1};
        int[] friends = {1, 0, 0};
        int[] wrong = {0, 71, 0};
        for (int i = 0; i < 3; i++) {
            putEach(x, 3, 0);
            x.put(alone[i], 1);
            due("all but " + alone[i] + ", worth(8)", x.worth(8), friends[i]);
            due("all but " + alone[i] + ", wrong()", x.wrong(), wrong[i]);
        }
    }

    void t1_skills_eachOfBits0To7CountsForItself() {
        for (int bit = 0; bit <= 7; bit++) {
            WishSharer x = new WishSharer();
            x.pupil(1 << bit);
            x.pupil(255 - (1 << bit));
            x.project(0, 1, 1, 1 << bit, 0);
            x.project(0, 1, 1, 0, 0);
            putAll(x, 0, 1);
            due("bit " + bit + " is there", x.wrong(), 0);
            putAll(x, 1, 0);
            due("bit " + bit + " is not", x.wrong(), 60);
        }
    }

    void t1_score_0AtFirst() {
        WishSharer x = withPupils(8);
        for (int p = 0; p < 8; p++) {
            due("of(" + p + ", 3)", x.of(p, 3), 0);
        }
    }

    void t1_friends_notAtFirst() {
        WishSharer x = with(8, 1, 8);
        putEach(x, 8, 0);
        due("worth(8)", x.worth(8), 0);
    }

    void t1_apart_notAtFirst() {
        WishSharer x = with(8, 1, 8);
        putEach(x, 8, 0);
        due("wrong()", x.wrong(), 0);
    }

    void t1_lots_asTheyCameAtFirst() {
        WishSharer x = withPupils(8);
        for (int p = 0; p < 8; p++) {
            due("of(" + p + ", 6)", x.of(p, 6), p);
        }
    }

    void t1_rank_from1To5InAFullRow() {
        WishSharer x = with(1, 5, 1);
        wishAll(x, 0, 3, 1, 4, 0, 2);
        wishesAre("full row", x, 0, 3, 1, 4, 0, 2);
    }

    void t1_rank_6OfEachThatIsNotThere() {
        WishSharer x = with(1, 5, 1);
        for (int q = 0; q < 5; q++) {
            due("empty row, rank(0, " + q + ")", x.rank(0, q), 6);
        }
        x.wish(0, 2);
        due("row of one, next before", x.rank(0, 1), 6);
        due("row of one, itself", x.rank(0, 2), 1);
        due("row of one, next behind", x.rank(0, 3), 6);
    }

    void t1_plan_aProjectOrNoneForEach() {
        for (int a = NONE; a < 5; a++) {
            for (int b = NONE; b < 5; b++) {
                WishSharer x = with(2, 5, 1);
                putAll(x, a, b);
                planIs(a + " and " + b, x, a, b);
            }
        }
    }

    void t1_right_eachHereHasOneOffered_othersNone() {
        for (int here = 0; here < 4; here++) {
            for (int offered = 0; offered < 4; offered++) {
                WishSharer x = with(2, 2, 2);
                for (int i = 0; i < 2; i++) {
                    x.here(i, (here >> i & 1) != 0);
                    x.offered(i, (offered >> i & 1) != 0);
                }
                rightIfEachHasItsDue(x, here, offered);
            }
        }
    }

    private void rightIfEachHasItsDue(WishSharer x, int here, int offered) {
        for (int a = NONE; a < 2; a++) {
            for (int b = NONE; b < 2; b++) {
                putAll(x, a, b);
                boolean right = hasItsDue(here & 1, a, offered) && hasItsDue(here >> 1, b, offered);
                String what = "HERE " + here + ", OFFERED " + offered + ", PLAN " + a + " " + b;
                due(what, x.wrong() == 0 ? 1 : 0, right ? 1 : 0);
            }
        }
    }

    private static boolean hasItsDue(int here, int project, int offered) {
        return here == 0 ? project == NONE : project != NONE && (offered >> project & 1) != 0;
    }

    // ---- Terms 1: WRONG

    void t1_right_planOfNoPupils() {
        WishSharer x = new WishSharer();
        due("nothing at all", x.wrong(), 0);
        x.project(0, 8, 8, 255, 0);
        due("a PROJECT", x.wrong(), 0);
    }

    void t1_right_nobodyIsHere() {
        WishSharer x = with(8, 5, 8);
        for (int p = 0; p < 8; p++) {
            x.here(p, false);
        }
        due("wrong()", x.wrong(), 0);
    }

    void t1_wrong1_ofEachPupil_firstToLast() {
        for (int p = 0; p < 8; p++) {
            WishSharer x = with(8, 1, 8);
            putEach(x, 8, 0);
            x.put(p, NONE);
            due("without one: " + p, x.wrong(), 10 + p);
        }
    }

    void t1_wrong1_leastOfTwo() {
        WishSharer x = with(8, 1, 8);
        putEach(x, 8, 0);
        x.put(7, NONE);
        x.put(6, NONE);
        due("wrong()", x.wrong(), 16);
    }

    void t1_wrong1_notOfOneThatIsNotHere() {
        WishSharer x = with(2, 1, 8);
        putAll(x, NONE, 0);
        x.here(0, false);
        due("wrong()", x.wrong(), 0);
    }

    void t1_wrong2_ofEachPupil_firstToLast() {
        for (int p = 0; p < 8; p++) {
            WishSharer x = with(8, 1, 8);
            putEach(x, 8, 0);
            x.here(p, false);
            due("away: " + p, x.wrong(), 20 + p);
        }
    }

    void t1_wrong2_leastOfTwo() {
        WishSharer x = with(8, 1, 8);
        putEach(x, 8, 0);
        x.here(7, false);
        x.here(6, false);
        due("wrong()", x.wrong(), 26);
    }

    void t1_wrong3_ofEachProject_firstToLast() {
        for (int q = 0; q < 5; q++) {
            WishSharer x = with(1, 5, 1);
            x.put(0, q);
            x.offered(q, false);
            due("not offered: " + q, x.wrong(), 30 + q);
        }
    }

    void t1_wrong3_leastOfTwo() {
        WishSharer x = with(2, 5, 1);
        putAll(x, 4, 3);
        x.offered(3, false);
        x.offered(4, false);
        due("wrong()", x.wrong(), 33);
    }

    void t1_wrong3_notWithoutPupils() {
        WishSharer x = with(1, 2, 1);
        x.put(0, 1);
        x.offered(0, false);
        due("wrong()", x.wrong(), 0);
    }

    void t1_wrong4_ofEachProject_firstToLast() {
        for (int q = 0; q < 5; q++) {
            WishSharer x = with(2, 5, 1);
            putAll(x, q, q);
            due("too many: " + q, x.wrong(), 40 + q);
        }
    }

    void t1_wrong4_leastOfTwo() {
        WishSharer x = with(4, 5, 1);
        putAll(x, 4, 4, 3, 3);
        due("wrong()", x.wrong(), 43);
    }

    void t1_wrong4_notOf0Pupils() {
        WishSharer x = with(1, 1, 1);
        x.project(0, 8, 8, 0, 0);
        x.project(1, 8, 8, 0, 0);
        x.project(2, 8, 8, 0, 0);
        x.project(3, 8, 8, 0, 0);
        x.put(0, 0);
        due("wrong()", x.wrong(), 0);
    }

    void t1_wrong5_ofEachProject_firstToLast() {
        for (int q = 0; q < 5; q++) {
            WishSharer x = withPupils(2);
            for (int i = 0; i < 5; i++) {
                x.project(3, 1, 2, 0, 1);
            }
            putAll(x, q, (q + 1) % 5);
            due("its LEADER in another one: " + q, x.wrong(), 50 + q);
        }
    }

    void t1_wrong5_leastOfTwo() {
        WishSharer x = withPupils(3);
        for (int i = 0; i < 5; i++) {
            x.project(3, 1, 2, 0, 0);
        }
        putAll(x, 0, 4, 3);
        due("wrong()", x.wrong(), 53);
    }

    void t1_wrong5_eachLeader_firstToLast() {
        for (int leader = 0; leader < 8; leader++) {
            WishSharer x = withPupils(8);
            x.project(3, 1, 8, 0, leader);
            x.project(0, 1, 1, 0, 0);
            putEach(x, 8, 0);
            due("among them: " + leader, x.wrong(), 0);
            x.put(leader, 1);
            due("not among them: " + leader, x.wrong(), 50);
        }
    }

    void t1_wrong5_notWithoutPupils() {
        WishSharer x = withPupils(1);
        x.project(3, 1, 1, 0, 0);
        x.project(0, 1, 1, 0, 0);
        x.put(0, 1);
        due("wrong()", x.wrong(), 0);
    }

    void t1_wrong5_notOfOtherKinds() {
        for (int kind = 0; kind <= 2; kind++) {
            WishSharer x = withPupils(3);
            x.project(kind, 2, 2, 0, 2);
            x.project(0, 1, 1, 0, 0);
            putAll(x, 0, 0, 1);
            due("KIND " + kind, x.wrong(), 0);
        }
    }

    void t1_wrong6_ofEachProject_firstToLast() {
        for (int q = 0; q < 5; q++) {
            WishSharer x = new WishSharer();
            x.pupil(127);
            for (int i = 0; i < 5; i++) {
                x.project(0, 1, 2, 128, 0);
            }
            x.put(0, q);
            due("without the SKILL: " + q, x.wrong(), 60 + q);
        }
    }

    void t1_wrong6_leastOfTwo() {
        WishSharer x = withPupils(2);
        for (int i = 0; i < 5; i++) {
            x.project(0, 1, 2, 1, 0);
        }
        putAll(x, 4, 3);
        due("wrong()", x.wrong(), 63);
    }

    void t1_wrong6_notWithoutPupils() {
        WishSharer x = with(1, 1, 1);
        x.project(0, 1, 1, 255, 0);
        x.put(0, 0);
        due("wrong()", x.wrong(), 0);
    }

    void t1_wrong6_skillsOfAllCountTogether() {
        WishSharer x = new WishSharer();
        x.project(0, 1, 8, 255, 0);
        for (int p = 0; p < 8; p++) {
            x.pupil(1 << p);
        }
        putEach(x, 8, 0);
        due("a bit each", x.wrong(), 0);
        x.here(7, false);
        x.put(7, NONE);
        due("the last bit is away", x.wrong(), 60);
        x.here(7, true);
        x.put(7, 0);
        x.here(0, false);
        x.put(0, NONE);
        due("the first bit is away", x.wrong(), 60);
    }

    void t1_wrong6_onceNeedsOne_twiceNeedsTwo() {
        for (int having = 0; having <= 2; having++) {
            for (int size = 2; size <= 4; size++) {
                WishSharer x = new WishSharer();
                for (int p = 0; p < size; p++) {
                    x.pupil(p >= size - having ? 128 : 127);
                }
                x.project(2, 1, 2, 128, 0);
                putEach(x, size, 0);
                int needed = size <= 2 ? 1 : 2;
                due(having + " of " + size + " have it", x.wrong(), having >= needed ? 0 : 60);
            }
        }
    }

    void t1_wrong6_twice_eachOfBits0To7() {
        for (int bit = 0; bit <= 7; bit++) {
            WishSharer x = new WishSharer();
            x.pupil(1 << bit);
            x.pupil(255 - (1 << bit));
            x.project(2, 1, 1, 1 << bit, 0);
            putEach(x, 2, 0);
            due("bit " + bit + " of one", x.wrong(), 60);
            x.pupil(1 << bit);
            x.here(1, false);
            putAll(x, 0, NONE, 0);
            due("bit " + bit + " of two", x.wrong(), 0);
        }
    }

    void t1_wrong6_twiceEachSkillTwo() {
        WishSharer x = new WishSharer();
        x.pupil(3);
        x.pupil(1);
        x.pupil(4);
        x.project(2, 1, 2, 3, 0);
        putEach(x, 3, 0);
        due("one SKILL of two, the other of one", x.wrong(), 60);
        x.pupil(2);
        x.put(3, 0);
        due("each of two", x.wrong(), 0);
    }

    void t1_wrong7_firstOfEachTwo() {
        for (int a = 0; a < 8; a++) {
            for (int b = a + 1; b < 8; b++) {
                WishSharer x = with(8, 1, 8);
                putEach(x, 8, 0);
                x.apart(b, a, true);
                due(a + " and " + b, x.wrong(), 70 + a);
            }
        }
    }

    void t1_wrong7_leastOfTwoPairs() {
        WishSharer x = with(8, 1, 8);
        putEach(x, 8, 0);
        x.apart(6, 7, true);
        x.apart(5, 7, true);
        due("wrong()", x.wrong(), 75);
    }

    void t1_wrong7_notInUnlikeProjects() {
        WishSharer x = with(2, 2, 1);
        x.apart(0, 1, true);
        putAll(x, 0, 1);
        due("wrong()", x.wrong(), 0);
    }

    void t1_wrong7_notOfTwoWithoutProject() {
        WishSharer x = withPupils(2);
        x.apart(0, 1, true);
        x.here(0, false);
        x.here(1, false);
        due("wrong()", x.wrong(), 0);
    }

    void t1_wrong_theLessNumberFirst_1Before2() {
        WishSharer x = with(2, 1, 8);
        x.put(0, 0);
        x.here(0, false);
        due("wrong()", x.wrong(), 11);
    }

    void t1_wrong_theLessNumberFirst_2Before3() {
        WishSharer x = with(2, 2, 8);
        putAll(x, 0, 1);
        x.here(1, false);
        x.offered(0, false);
        due("wrong()", x.wrong(), 21);
    }

    void t1_wrong_theLessNumberFirst_3Before4() {
        WishSharer x = with(3, 2, 1);
        putAll(x, 0, 0, 1);
        x.offered(1, false);
        due("wrong()", x.wrong(), 31);
    }

    void t1_wrong_theLessNumberFirst_4Before5() {
        WishSharer x = withPupils(3);
        x.project(3, 1, 1, 0, 2);
        x.project(0, 1, 1, 0, 0);
        putAll(x, 0, 1, 1);
        due("wrong()", x.wrong(), 41);
    }

    void t1_wrong_theLessNumberFirst_5Before6() {
        WishSharer x = withPupils(2);
        x.project(0, 1, 1, 1, 0);
        x.project(3, 1, 1, 0, 0);
        putAll(x, 0, 1);
        due("wrong()", x.wrong(), 51);
    }

    void t1_wrong_theLessNumberFirst_6Before7() {
        WishSharer x = with(3, 1, 8);
        x.project(0, 1, 8, 1, 0);
        x.apart(0, 1, true);
        putAll(x, 0, 0, 1);
        due("wrong()", x.wrong(), 61);
    }

    // ---- Terms 1: SIZES

    private void sizesAre(int kind, int least, int most, String right) {
        for (int k = 1; k <= 8; k++) {
            WishSharer x = withPupils(k);
            x.project(kind, least, most, 0, 0);
            putEach(x, k, 0);
            String what = "KIND " + kind + ", " + least + " to " + most + ", " + k + " PUPILS";
            due(what, x.wrong(), right.indexOf('0' + k) >= 0 ? 0 : 40);
        }
    }

    void t1_sizes_plain_leastAndMostTaken_oneBelowAndOneAboveRefused() {
        sizesAre(0, 3, 5, "345");
        sizesAre(0, 4, 4, "4");
    }

    void t1_sizes_plain_1And8AreTheOutermost() {
        sizesAre(0, 1, 8, "12345678");
        sizesAre(0, 1, 1, "1");
        sizesAre(0, 8, 8, "8");
    }

    void t1_sizes_led_leastAndMostTaken_oneBelowAndOneAboveRefused() {
        sizesAre(3, 3, 5, "345");
        sizesAre(3, 1, 8, "12345678");
        sizesAre(3, 8, 8, "8");
    }

    void t1_sizes_pairs_evenBounds() {
        sizesAre(1, 4, 6, "46");
        sizesAre(1, 2, 2, "2");
        sizesAre(1, 8, 8, "8");
    }

    void t1_sizes_pairs_oddBounds() {
        sizesAre(1, 3, 7, "46");
        sizesAre(1, 1, 8, "2468");
    }

    void t1_sizes_pairs_noEvenOneBetween() {
        sizesAre(1, 1, 1, "");
        sizesAre(1, 7, 7, "");
    }

    void t1_sizes_doubled_twiceLeastToTwiceMost_oneBelowAndOneAboveRefused() {
        sizesAre(2, 3, 3, "36");
        sizesAre(2, 2, 3, "23456");
        sizesAre(2, 3, 4, "34678");
    }

    void t1_sizes_doubled_nothingBetweenMostAndTwiceLeast() {
        sizesAre(2, 4, 5, "458");
        sizesAre(2, 4, 4, "48");
    }

    void t1_sizes_doubled_1() {
        sizesAre(2, 1, 1, "12");
        sizesAre(2, 1, 4, "12345678");
    }

    void t1_sizes_doubled_twiceLeastAbove8() {
        sizesAre(2, 5, 5, "5");
        sizesAre(2, 5, 8, "5678");
        sizesAre(2, 8, 8, "8");
    }

    // ---- Terms 1: BETTER

    /** A row in which PROJECTS 0 and 1 have these RANKS, filled up with others. */
    private static void wishForTwo(WishSharer x, int pupil, int rankOf0, int rankOf1) {
        int filler = 2;
        int last = Math.max(rankOf0 == 6 ? 0 : rankOf0, rankOf1 == 6 ? 0 : rankOf1);
        for (int place = 1; place <= last; place++) {
            int q = place == rankOf0 ? 0 : place == rankOf1 ? 1 : filler++;
            if (x.wish(pupil, q) != place) {
                throw new IllegalStateException("no such row");
            }
        }
    }

    /** Only two PLANS are RIGHT: all in PROJECT 0, or all in PROJECT 1. */
    private static WishSharer withTwoPlans(int pupils) {
        WishSharer x = withPupils(pupils);
        for (int q = 0; q < 5; q++) {
            x.project(0, pupils, pupils, 0, 0);
            x.offered(q, q < 2);
        }
        return x;
    }

    private void allIn1IsBetter(String what, WishSharer x) {
        due(what + ", plans(0)", x.plans(0), 2);
        due(what + ", best()", x.best(), 1);
        due(what + ", best takes", x.of(0, 4), 1);
        due(what + ", better than it", x.plans(1), 0);
        putEach(x, 8, 0);
        due(what + ", better than the other", x.plans(1), 1);
    }

    private void oneWorstAgainstAllNextTo(int worst) {
        WishSharer x = withTwoPlans(8);
        wishForTwo(x, 0, worst, worst == 6 ? 4 : worst - 1);
        for (int p = 1; p < 8; p++) {
            wishForTwo(x, p, 1, worst - 1);
        }
        allIn1IsBetter("one of RANK " + worst + ", seven of 1", x);
    }

    void t1_better_one6IsWorseThanSeven5() {
        oneWorstAgainstAllNextTo(6);
    }

    void t1_better_one5IsWorseThanEight4() {
        oneWorstAgainstAllNextTo(5);
    }

    void t1_better_one4IsWorseThanEight3() {
        oneWorstAgainstAllNextTo(4);
    }

    void t1_better_one3IsWorseThanEight2() {
        oneWorstAgainstAllNextTo(3);
    }

    /** Of both PLANS one PUPIL has the worst RANK; all in 0 has one of the next RANK, all in 1 none of it. */
    private void asManyWorstThenNext(int worst) {
        WishSharer x = withTwoPlans(8);
        wishForTwo(x, 0, worst, worst - 2);
        wishForTwo(x, 1, worst - 1, worst - 2);
        for (int p = 2; p < 8; p++) {
            wishForTwo(x, p, 1, p == 2 ? worst : worst - 2);
        }
        allIn1IsBetter("as many of RANK " + worst + ", fewer of " + (worst - 1), x);
    }

    void t1_better_asMany6_fewer5() {
        asManyWorstThenNext(6);
    }

    void t1_better_asMany5_fewer4() {
        asManyWorstThenNext(5);
    }

    void t1_better_asMany4_fewer3() {
        asManyWorstThenNext(4);
    }

    void t1_better_asMany3_fewer2() {
        // RANKS 1, 2, 2 have less GRIEF than 2, 1, 1, for the first one's SCORE.
        WishSharer x = withPupils(3);
        x.project(0, 3, 3, 0, 0);
        x.project(0, 3, 3, 0, 0);
        x.project(0, 1, 1, 0, 0);
        x.here(1, false);
        x.here(2, false);
        x.put(0, 2);
        due("book()", x.book(), 1);
        due("SCORE", x.of(0, 3), 5);
        x.here(1, true);
        x.here(2, true);
        wishAll(x, 0, 0, 1);
        wishAll(x, 1, 1, 0);
        wishAll(x, 2, 1, 0);
        due("best()", x.best(), 1);
        planIs("one 2, not two", x, 1, 1, 1);
        due("GRIEF", x.worth(7), 14);
        putEach(x, 3, 0);
        due("less GRIEF", x.worth(7), 10);
        due("yet the other one is better", x.plans(1), 1);
    }

    void t1_better_asMany6_fewer2_before2999OfGrief() {
        WishSharer x = withPupils(7);
        x.project(0, 7, 7, 0, 0);
        x.project(0, 7, 7, 0, 0);
        x.project(0, 2, 2, 0, 0);
        for (int p = 2; p < 7; p++) {
            x.here(p, false);
        }
        for (int y = 0; y < 60; y++) {
            x.best();
            x.book();
        }
        for (int p = 0; p < 7; p++) {
            x.here(p, true);
            wishAll(x, p, p < 2 || p == 6 ? 1 : 0);
        }
        wishAll(x, 4, 1);
        wishAll(x, 5, 1);
        wishAll(x, 6, 0);
        x.offered(2, false);
        due("two PLANS", x.plans(0), 2);
        putEach(x, 7, 1);
        due("GRIEF of all in 1", x.worth(7), 619);
        due("two of RANK 2", x.worth(2), 2);
        due("the other one is better", x.plans(1), 1);
        due("best()", x.best(), 1);
        due("GRIEF of all in 0", x.worth(7), 3618);
        due("one of RANK 2", x.worth(2), 1);
    }

    void t1_better_ranksBeforeGrief_atTheHighestScore() {
        WishSharer x = with(2, 4, 1);
        x.here(0, false);
        for (int y = 0; y < 60; y++) {
            x.put(1, 0);
            x.book();
        }
        due("SCORE", x.of(1, 3), 300);
        x.here(0, true);
        wishAll(x, 0, 0, 2, 1);
        wishAll(x, 1, 0, 1);
        x.offered(2, false);
        x.offered(3, false);
        // RANKS 3 and 1 have less GRIEF by far, but 1 and 2 have no 3.
        x.best();
        planIs("no 3", x, 0, 1);
        putAll(x, 1, 0);
        due("the other one is better", x.plans(1), 1);
    }

    void t1_better_lessGrief_scoreOf1Decides() {
        WishSharer x = with(2, 2, 1);
        wishAll(x, 0, 0, 1);
        wishAll(x, 1, 0, 1);
        putAll(x, 0, 1);
        x.book();
        due("SCORES", x.of(0, 3) * 10 + x.of(1, 3), 1);
        x.best();
        planIs("the SCORE comes before LOTS", x, 1, 0);
        due("GRIEF", x.worth(7), 4);
    }

    void t1_better_lessGrief_score300Against299() {
        WishSharer x = with(2, 5, 2);
        x.wishes(0, 1, 5, 0, 1);
        for (int y = 0; y < 60; y++) {
            putEach(x, 2, 4);
            x.book();
            x.wishes(0, 2, 0, 0, 0);
        }
        due("SCORE", x.of(0, 3), 299);
        due("SCORE", x.of(1, 3), 300);
        x.wishes(0, 1, 2, 0, 1);
        x.wishes(1, 1, 2, 0, 1);
        x.apart(0, 1, true);
        x.best();
        planIs("1 more counts before LOTS", x, 1, 0);
        due("GRIEF", x.worth(7), 901);
        putAll(x, 0, 1);
        due("GRIEF", x.worth(7), 902);
        due("one is better", x.plans(1), 1);
    }

    void t1_better_asManyFriends_lotsDecide() {
        WishSharer x = withTwoPlans(8);
        for (int p = 0; p < 8; p++) {
            x.wishes(p, 1, 2, p % 2, p % 2 == 0 ? 1 : -1);
        }
        x.friends(5, 7, true);
        due("best()", x.best(), 1);
        due("the first has its first", x.of(0, 4), 0);
    }

    void t1_better_moreFriends_beforeLots() {
        WishSharer x = with(3, 2, 2);
        x.best();
        planIs("by LOTS", x, 0, 0, 1);
        x.friends(1, 2, true);
        x.best();
        planIs("by FRIENDS", x, 0, 1, 1);
        putAll(x, 0, 0, 1);
        due("those with the pair", x.plans(1), 2);
    }

    void t1_better_moreFriends_28PairsAreTheMost() {
        WishSharer x = with(8, 2, 8);
        for (int a = 0; a < 8; a++) {
            for (int b = a + 1; b < 8; b++) {
                x.friends(a, b, true);
            }
        }
        x.offered(0, false);
        x.best();
        due("worth(8)", x.worth(8), 28);
        x.offered(0, true);
        due("all in the other one", x.plans(1), 1);
        x.put(7, 0);
        due("worth(8)", x.worth(8), 21);
        // Two of 28 pairs; of 21, those with PUPIL 0 in PROJECT 0 or, else, another one there before 7.
        due("all in one, or by number", x.plans(1), 2 + 8 + 7);
    }

    void t1_better_1LessOfGrief_before24PairsMore() {
        WishSharer x = withPupils(8);
        x.project(0, 8, 8, 0, 0);
        for (int q = 1; q < 5; q++) {
            x.project(0, 1, 2, 0, 0);
        }
        scoreOf1For(x, 1);
        for (int a = 0; a < 8; a++) {
            for (int b = 0; b < a; b++) {
                x.friends(a, b, true);
            }
            // Half of them like PROJECT 0 less than the one that they share with one other PUPIL.
            int own = 1 + a / 2;
            x.wishes(a, 1, 2, a % 2 == 0 ? 0 : own, a % 2 == 0 ? own : -own);
        }
        putEach(x, 8, 0);
        due("28 pairs", x.worth(8), 28);
        due("GRIEF", x.worth(7), 14);
        due("one is better", x.plans(1), 1);
        due("best()", x.best(), 1);
        planIs("two and two", x, 1, 1, 2, 2, 3, 3, 4, 4);
        due("4 pairs", x.worth(8), 4);
        due("GRIEF 1 less", x.worth(7), 13);
    }

    /** Books a year of this PUPIL alone, its PROJECT being its second. */
    private void scoreOf1For(WishSharer x, int pupil) {
        for (int p = 0; p < x.count(0); p++) {
            x.here(p, p == pupil);
        }
        wishAll(x, pupil, 2, 1);
        x.put(pupil, 1);
        due("book()", x.book(), 1);
        due("SCORE", x.of(pupil, 3), 1);
        for (int p = 0; p < x.count(0); p++) {
            x.here(p, true);
        }
    }

    void t1_better_friendsDoNotCountBeforeGrief() {
        WishSharer x = with(2, 2, 2);
        wishAll(x, 0, 0);
        wishAll(x, 1, 1);
        x.friends(0, 1, true);
        x.best();
        planIs("each its first", x, 0, 1);
    }

    void t1_better_lots_firstWithUnlikeProjects_lessRank() {
        WishSharer x = with(3, 3, 1);
        wishAll(x, 0, 0, 1, 2);
        wishAll(x, 1, 1, 2, 0);
        wishAll(x, 2, 1, 2, 0);
        x.best();
        planIs("0 is alike in both, 1 is first", x, 0, 1, 2);
        // By seed 0 three places become 1, 2, 0.
        x.lots(0);
        due("the place of 2", x.of(2, 6), 1);
        due("the place of 1", x.of(1, 6), 0);
        x.best();
        planIs("1 is first", x, 0, 1, 2);
        putAll(x, 0, 2, 1);
        due("one is better", x.plans(1), 1);
    }

    void t1_better_lots_lessRankInTheLastProject_beforeTheFirstProject() {
        for (int rank = 1; rank <= 4; rank++) {
            WishSharer x = with(2, 5, 1);
            for (int p = 0; p < 2; p++) {
                for (int place = 1; place < rank; place++) {
                    x.wish(p, place);
                }
                wishAll(x, p, 4, 0);
            }
            for (int q = 1; q < 4; q++) {
                x.offered(q, false);
            }
            x.best();
            planIs("RANK " + rank + " in 4, the next in 0", x, 4, 0);
            putAll(x, 0, 4);
            due("RANK " + rank + ", one is better", x.plans(1), 1);
        }
    }

    void t1_better_lots_lessNumberOfTheFirst_beforeLessRankOfTheNext() {
        WishSharer x = new WishSharer();
        x.pupil(0);
        x.pupil(1);
        x.pupil(1);
        for (int q = 0; q < 5; q++) {
            // The last one is none for the first PUPIL.
            x.project(0, 1, 1, q == 4 ? 1 : 0, 0);
            x.offered(q, q < 2 || q == 4);
        }
        wishAll(x, 1, 0);
        wishAll(x, 2, 1);
        x.best();
        planIs("0 has 6 in both, 1 has 6", x, 0, 4, 1);
        putAll(x, 1, 0, 4);
        due("0 has 6 in both, 1 has 1: one is better", x.plans(1), 1);
    }

    void t1_better_lots_lastOfEightDecidesToo() {
        WishSharer x = with(8, 2, 8);
        putEach(x, 8, 0);
        due("none better", x.plans(1), 0);
        x.put(7, 1);
        due("the last alone has another", x.plans(1), 1);
        x.put(7, 0);
        x.put(6, 1);
        due("the last but one", x.plans(1), 2);
        x.put(6, 0);
        x.put(0, 1);
        due("the first: half of all", x.plans(1), 128);
    }

    void t1_better_equalRankThenLessNumber() {
        WishSharer x = with(1, 5, 1);
        for (int q = 0; q < 5; q++) {
            x.put(0, q);
            due("better than " + q, x.plans(1), q);
        }
        x.put(0, NONE);
        due("better than none", x.plans(1), 5);
    }

    void t1_better_lessRankBeforeLessNumber() {
        WishSharer x = with(2, 2, 1);
        wishAll(x, 0, 1, 0);
        wishAll(x, 1, 1, 0);
        x.best();
        planIs("the greater number has less RANK", x, 1, 0);
    }

    void t1_better_notHereDoNotCount() {
        WishSharer x = with(2, 2, 1);
        wishAll(x, 0, 0, 1);
        x.here(0, false);
        putAll(x, 1, 0);
        due("what it has is no worse", x.plans(1), 0);
        putAll(x, 0, 1);
        due("nor better", x.plans(1), 1);
    }

    // ---- Terms 2

    void t2_plan_noneAtFirst() {
        WishSharer x = with(8, 5, 8);
        planIs("at first", x, NONE, NONE, NONE, NONE, NONE, NONE, NONE, NONE);
    }

    void t2_plan_aNewPupilHasNone() {
        WishSharer x = with(7, 1, 8);
        putEach(x, 7, 0);
        x.best();
        due("the eighth", x.pupil(0), 7);
        planIs("it alone has none", x, 0, 0, 0, 0, 0, 0, 0, NONE);
    }

    void t2_row_emptyAtFirst() {
        WishSharer x = new WishSharer();
        due("count(4)", x.count(4), 0);
        noRow(x, 0);
    }

    void t2_row_whatWasToldLast() {
        WishSharer x = with(2, 3, 1);
        wishAll(x, 0, 1, 0);
        wishAll(x, 1, 0, 1);
        putAll(x, 0, 1);
        due("swap()", x.swap(), 1);
        rowIs("two PUPILS", x, 0, 1);
        x.wishes(1, 1, 2, 1, -1);
        x.offered(2, false);
        due("lie(1)", x.lie(1), 1);
        rowIs("three PROJECTS", x, 1, 2, 0);
        x.wishes(1, 1, 2, 0, 1);
        putAll(x, 0, 1);
        due("swap() again", x.swap(), 1);
        rowIs("two PUPILS again", x, 0, 1);
    }

    void t2_row_staysWhenACallTellsNone() {
        WishSharer x = with(2, 2, 1);
        wishAll(x, 0, 1, 0);
        wishAll(x, 1, 0, 1);
        putAll(x, 0, 1);
        due("swap()", x.swap(), 1);
        putAll(x, 1, 0);
        due("swap() of none", x.swap(), 0);
        due("lie() of none", x.lie(0), 0);
        due("lie() of none such", x.lie(2), NONE);
        x.offered(0, false);
        due("lie() without a PLAN", x.lie(0), -2);
        rowIs("it stays", x, 0, 1);
    }
}
