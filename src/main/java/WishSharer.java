import java.util.NoSuchElementException;

/** Shares out projects among pupils; ../shared/DOC.md says what each call promises. */
public final class WishSharer {
    public static final int NONE = -1;

    private static final int MOST_PUPILS = 8;
    private static final int MOST_PROJECTS = 5;
    private static final int MOST_SIZE = 8;
    private static final int MOST_SKILLS = 255;
    private static final int MOST_YEARS = 60;
    private static final int MOST_ENTRIES = 20;
    private static final int MOST_FOR_LIE = 5;
    private static final int ROWS_OF_ALL = 120;
    private static final int UNWISHED = 6;
    private static final int NO_LENGTH = -2;
    private static final int NO_PLAN = -2;

    private static final int BYTE_SHEET = 0;
    private static final int MISSING_SHEET = 2;

    private static final int PAIRS = 1;
    private static final int DOUBLED = 2;
    private static final int LED = 3;

    private static final int WITHOUT_PROJECT = 1;
    private static final int AWAY_WITH_PROJECT = 2;
    private static final int NOT_OFFERED = 3;
    private static final int NO_SIZE = 4;
    private static final int NO_LEADER = 5;
    private static final int NO_SKILL = 6;
    private static final int APART_TOGETHER = 7;

    private final Roll roll = new Roll();
    private final Search search = new Search();
    private final Ledger ledger = new Ledger();
    private final int[] plan = new int[MOST_PUPILS];
    private final int[] told = new int[MOST_PROJECTS];
    private final int[] tale = new int[MOST_PROJECTS];
    private final int[] taleRanks = new int[MOST_PROJECTS];
    private int toldCount;

    public WishSharer() {
        for (int i = 0; i < plan.length; i++) {
            plan[i] = NONE;
        }
    }

    // ---- who and what

    public int pupil(int skills) {
        return skills < 0 || skills > MOST_SKILLS ? NONE : roll.addPupil(skills);
    }

    public int project(int kind, int least, int most, int skills, int leader) {
        if (kind < 0 || kind > LED || least < 1 || most < least || most > MOST_SIZE) {
            return NONE;
        }
        if (skills < 0 || skills > MOST_SKILLS || kind == LED && !roll.isPupil(leader)) {
            return NONE;
        }
        return roll.addProject(kind, least, most, skills, leader);
    }

    public int wish(int pupil, int project) {
        Pupil who = roll.pupilOf(pupil);
        if (who == null || !roll.isProject(project) || !who.addWish(project)) {
            return NONE;
        }
        return who.wished;
    }

    public int wishes(int pupil, int kind, int n, int f, int step) {
        Pupil who = roll.pupilOf(pupil);
        if (who == null || kind < 0 || kind > MISSING_SHEET || n > MOST_ENTRIES) {
            return NONE;
        }
        // A missing sheet has no length, so its n can't be below 0.
        int length = kind == MISSING_SHEET ? 0 : n;
        if (length < 0) {
            return NO_LENGTH;
        }
        who.clearWishes();
        int entry = f;
        for (int i = 0; i < length; i++) {
            int project = kind == BYTE_SHEET ? (byte) entry : entry;
            if (!roll.isProject(project) || !who.addWish(project)) {
                break;
            }
            entry += step;
        }
        return who.wished;
    }

    public boolean friends(int a, int b, boolean are) {
        Pupil one = roll.pupilOf(a);
        Pupil other = roll.pupilOf(b);
        if (one == null || other == null || a == b) {
            return false;
        }
        one.friendBits = withBit(one.friendBits, b, are);
        other.friendBits = withBit(other.friendBits, a, are);
        return true;
    }

    public boolean apart(int a, int b, boolean are) {
        Pupil one = roll.pupilOf(a);
        Pupil other = roll.pupilOf(b);
        if (one == null || other == null || a == b) {
            return false;
        }
        one.apartBits = withBit(one.apartBits, b, are);
        other.apartBits = withBit(other.apartBits, a, are);
        return true;
    }

    public boolean here(int pupil, boolean is) {
        Pupil who = roll.pupilOf(pupil);
        if (who == null) {
            return false;
        }
        who.present = is;
        return true;
    }

    public boolean offered(int project, boolean is) {
        Project what = roll.projectOf(project);
        if (what == null) {
            return false;
        }
        what.onOffer = is;
        return true;
    }

    public boolean lots(int seed) {
        roll.drawLots(seed);
        return true;
    }

    public int count(int what) {
        switch (what) {
            case 0: return roll.pupilCount;
            case 1: return roll.projectCount;
            case 2: return Integer.bitCount(roll.presentBits());
            case 3: return ledger.years;
            case 4: return toldCount;
            case 5: return roll.offeredCount();
            default: return NONE;
        }
    }

    public int of(int pupil, int what) throws NoSuchElementException {
        Pupil who = roll.pupilOf(pupil);
        if (who == null) {
            throw new NoSuchElementException();
        }
        switch (what) {
            case 0: return who.skills;
            case 1: return who.present ? 1 : 0;
            case 2: return who.wished;
            case 3: return who.score;
            case 4: return plan[pupil];
            case 5: return plan[pupil] == NONE ? 0 : who.rankIn(plan[pupil]);
            case 6: return roll.placeOf(pupil);
            default: throw new NoSuchElementException();
        }
    }

    public int rank(int pupil, int project) {
        Pupil who = roll.pupilOf(pupil);
        return who == null || !roll.isProject(project) ? NONE : who.rankIn(project);
    }

    // ---- plans

    public boolean put(int pupil, int project) {
        if (!roll.isPupil(pupil) || project != NONE && !roll.isProject(project)) {
            return false;
        }
        plan[pupil] = project;
        return true;
    }

    public int wrong() {
        return roll.faultOf(plan);
    }

    public int best() {
        search.prepare(roll);
        if (!search.findBest()) {
            return 0;
        }
        search.copyFound(plan);
        return 1;
    }

    public int plans(int what) {
        if (what < 0 || what > 1) {
            return NONE;
        }
        search.prepare(roll);
        return what == 0 ? search.countRight() : search.countBetter(plan);
    }

    public int worth(int what) {
        if (what >= 1 && what <= UNWISHED) {
            return countRanks(what);
        }
        switch (what) {
            case 7: return grief();
            case 8: return friendPairs();
            case 9: return projectsUsed();
            default: return NONE;
        }
    }

    public int swap() {
        for (int a = 0; a < roll.pupilCount; a++) {
            for (int b = a + 1; b < roll.pupilCount; b++) {
                if (bothGain(a, b) && rightAfterExchange(a, b)) {
                    told[0] = a;
                    told[1] = b;
                    toldCount = 2;
                    return 1;
                }
            }
        }
        return 0;
    }

    public int change() {
        search.prepare(roll);
        for (int p = 0; p < roll.pupilCount; p++) {
            search.chargeMove(p, plan[p]);
        }
        if (!search.findBest()) {
            return NONE;
        }
        int moved = search.movedFrom(plan);
        search.copyFound(plan);
        return moved;
    }

    public int lie(int pupil) {
        Pupil who = roll.pupilOf(pupil);
        if (who == null || !who.present || Integer.bitCount(roll.presentBits()) > MOST_FOR_LIE) {
            return NONE;
        }
        search.prepare(roll);
        if (!search.findBest()) {
            return NO_PLAN;
        }
        int honest = who.rankIn(search.foundFor(pupil));
        // No row can pay for one that has its first WISH.
        return honest > 1 && findPayingTale(pupil, who, honest) ? 1 : 0;
    }

    // ---- years

    public int book() {
        if (ledger.years >= MOST_YEARS) {
            return NONE;
        }
        if (roll.faultOf(plan) != 0) {
            return 0;
        }
        for (int p = 0; p < MOST_PUPILS; p++) {
            int rank = rankByPlan(p);
            ledger.note(p, plan[p], rank);
            if (rank > 0) {
                roll.addScore(p, rank - 1);
            }
            plan[p] = NONE;
        }
        ledger.years++;
        return 1;
    }

    public int year(int y, int pupil) {
        return y < 0 || y >= ledger.years || !roll.isPupil(pupil) ? NONE : ledger.rankOf(y, pupil);
    }

    public int undo() {
        if (ledger.years <= 0) {
            return NONE;
        }
        ledger.years--;
        for (int p = 0; p < MOST_PUPILS; p++) {
            int rank = ledger.rankOf(ledger.years, p);
            if (rank > 0) {
                roll.addScore(p, 1 - rank);
            }
            plan[p] = ledger.projectOf(ledger.years, p);
        }
        return ledger.years;
    }

    public int row(int i) throws NoSuchElementException {
        if (i < 0 || i >= toldCount) {
            throw new NoSuchElementException();
        }
        return told[i];
    }

    // ---- what the calls share

    private static int withBit(int bits, int place, boolean is) {
        return is ? bits | 1 << place : bits & ~(1 << place);
    }

    /** Whether a PUPIL counts for the worth of THE PLAN: it is HERE and has a PROJECT. */
    private boolean isPlaced(int pupil) {
        Pupil who = roll.pupilOf(pupil);
        return who != null && who.present && plan[pupil] != NONE;
    }

    /** 0 for a PUPIL without a PROJECT. */
    private int rankByPlan(int pupil) {
        Pupil who = roll.pupilOf(pupil);
        return who == null || plan[pupil] == NONE ? 0 : who.rankIn(plan[pupil]);
    }

    private int countRanks(int rank) {
        int counted = 0;
        for (int p = 0; p < roll.pupilCount; p++) {
            if (isPlaced(p) && rankByPlan(p) == rank) {
                counted++;
            }
        }
        return counted;
    }

    private int grief() {
        int sum = 0;
        for (int p = 0; p < roll.pupilCount; p++) {
            if (isPlaced(p)) {
                sum += rankByPlan(p) * (roll.scoreOf(p) + 1);
            }
        }
        return sum;
    }

    private int friendPairs() {
        int pairs = 0;
        for (int a = 0; a < roll.pupilCount; a++) {
            for (int b = a + 1; b < roll.pupilCount; b++) {
                if (isPlaced(a) && isPlaced(b) && plan[a] == plan[b] && roll.areFriends(a, b)) {
                    pairs++;
                }
            }
        }
        return pairs;
    }

    private int projectsUsed() {
        int used = 0;
        for (int p = 0; p < roll.pupilCount; p++) {
            if (isPlaced(p)) {
                used |= 1 << plan[p];
            }
        }
        return Integer.bitCount(used);
    }

    private boolean bothGain(int a, int b) {
        return isPlaced(a) && isPlaced(b) && gains(a, plan[b]) && gains(b, plan[a]);
    }

    private boolean gains(int pupil, int project) {
        Pupil who = roll.pupilOf(pupil);
        return who != null && who.rankIn(project) < rankByPlan(pupil);
    }

    private boolean rightAfterExchange(int a, int b) {
        exchangePlaces(plan, a, b);
        boolean right = roll.faultOf(plan) == 0;
        exchangePlaces(plan, a, b);
        return right;
    }

    /** Tells rows of all PROJECTS for a PUPIL, in their order, until one pays; that one is the ROW. */
    private boolean findPayingTale(int pupil, Pupil who, int honest) {
        int length = roll.projectCount;
        for (int i = 0; i < length; i++) {
            tale[i] = i;
        }
        for (int tried = 0; tried < ROWS_OF_ALL; tried++) {
            rankByTale(length);
            search.tellRanks(pupil, roll.placeOf(pupil), who.score, taleRanks);
            if (search.findBest() && who.rankIn(search.foundFor(pupil)) < honest) {
                System.arraycopy(tale, 0, told, 0, length);
                toldCount = length;
                return true;
            }
            if (!turnToNext(tale, length)) {
                return false;
            }
        }
        return false;
    }

    private void rankByTale(int length) {
        for (int i = 0; i < length; i++) {
            int project = tale[i];
            if (project >= 0 && project < taleRanks.length) {
                taleRanks[project] = i + 1;
            }
        }
    }

    /** Makes of a row of unlike numbers the next one, by the first number that is not alike. */
    private static boolean turnToNext(int[] row, int length) {
        int turn = length - 2;
        while (turn >= 0 && row[turn] > row[turn + 1]) {
            turn--;
        }
        if (turn < 0) {
            return false;
        }
        int other = length - 1;
        while (other > turn + 1 && row[other] < row[turn]) {
            other--;
        }
        exchangePlaces(row, turn, other);
        for (int low = turn + 1, high = length - 1; low < high; low++, high--) {
            exchangePlaces(row, low, high);
        }
        return true;
    }

    private static void exchangePlaces(int[] row, int i, int j) {
        if (i < 0 || i >= row.length || j < 0 || j >= row.length) {
            return;
        }
        int kept = row[i];
        row[i] = row[j];
        row[j] = kept;
    }

    private static final class Pupil {
        final int[] ranks = new int[MOST_PROJECTS];
        int skills;
        int wished;
        int score;
        int friendBits;
        int apartBits;
        boolean present = true;

        Pupil() {
            for (int q = 0; q < ranks.length; q++) {
                ranks[q] = UNWISHED;
            }
        }

        /** False if the WISH was there. */
        boolean addWish(int project) {
            if (project < 0 || project >= ranks.length || ranks[project] != UNWISHED) {
                return false;
            }
            wished++;
            ranks[project] = wished;
            return true;
        }

        void clearWishes() {
            wished = 0;
            for (int q = 0; q < ranks.length; q++) {
                ranks[q] = UNWISHED;
            }
        }

        int rankIn(int project) {
            return project < 0 || project >= ranks.length ? UNWISHED : ranks[project];
        }
    }

    private static final class Project {
        int kind;
        int least;
        int most;
        int skills;
        int leader;
        boolean onOffer = true;

        boolean takes(int size) {
            if (runsTwice(size)) {
                return true;
            }
            return size >= least && size <= most && (kind != PAIRS || size % 2 == 0);
        }

        boolean runsTwice(int size) {
            return kind == DOUBLED && size > most && size >= 2 * least && size <= 2 * most;
        }

        boolean lacksLeader(int group) {
            return kind == LED && (group >> leader & 1) == 0;
        }
    }

    /** The PUPILS, the PROJECTS, LOTS, and what makes a PLAN of them RIGHT. A group is a set of PUPILS, as bits. */
    private static final class Roll {
        private final Pupil[] pupils = new Pupil[MOST_PUPILS];
        private final Project[] projects = new Project[MOST_PROJECTS];
        private final int[] order = new int[MOST_PUPILS];
        int pupilCount;
        int projectCount;

        Roll() {
            for (int p = 0; p < pupils.length; p++) {
                pupils[p] = new Pupil();
            }
            for (int q = 0; q < projects.length; q++) {
                projects[q] = new Project();
            }
        }

        int addPupil(int skills) {
            if (pupilCount >= MOST_PUPILS) {
                return NONE;
            }
            int number = pupilCount;
            pupils[number].skills = skills;
            order[number] = number;
            pupilCount++;
            return number;
        }

        int addProject(int kind, int least, int most, int skills, int leader) {
            if (projectCount >= MOST_PROJECTS) {
                return NONE;
            }
            int number = projectCount;
            Project what = projects[number];
            what.kind = kind;
            what.least = least;
            what.most = most;
            what.skills = skills;
            what.leader = leader;
            projectCount++;
            return number;
        }

        boolean isPupil(int number) {
            return number >= 0 && number < pupilCount;
        }

        boolean isProject(int number) {
            return number >= 0 && number < projectCount;
        }

        /** Null if there is none such. */
        Pupil pupilOf(int number) {
            return isPupil(number) ? pupils[number] : null;
        }

        /** Null if there is none such. */
        Project projectOf(int number) {
            return isProject(number) ? projects[number] : null;
        }

        int scoreOf(int pupil) {
            Pupil who = pupilOf(pupil);
            return who == null ? 0 : who.score;
        }

        void addScore(int pupil, int more) {
            Pupil who = pupilOf(pupil);
            if (who != null) {
                who.score += more;
            }
        }

        boolean areFriends(int a, int b) {
            Pupil one = pupilOf(a);
            return one != null && isPupil(b) && (one.friendBits >> b & 1) != 0;
        }

        int presentBits() {
            int bits = 0;
            for (int p = 0; p < pupilCount; p++) {
                if (pupils[p].present) {
                    bits |= 1 << p;
                }
            }
            return bits;
        }

        int offeredCount() {
            int counted = 0;
            for (int q = 0; q < projectCount; q++) {
                if (projects[q].onOffer) {
                    counted++;
                }
            }
            return counted;
        }

        void drawLots(int seed) {
            for (int i = 0; i < pupilCount; i++) {
                order[i] = i;
            }
            int random = seed;
            for (int i = pupilCount - 1; i >= 1; i--) {
                random = random * 1103515245 + 12345;
                exchangePlaces(order, i, (random >>> 16) % (i + 1));
            }
        }

        int placeOf(int pupil) {
            for (int i = 0; i < pupilCount; i++) {
                if (order[i] == pupil) {
                    return i;
                }
            }
            return NONE;
        }

        /** WRONG times 10 and the number that goes with it; 0 for a RIGHT PLAN. */
        int faultOf(int[] plan) {
            for (int fault = WITHOUT_PROJECT; fault <= APART_TOGETHER; fault++) {
                boolean ofProjects = fault >= NOT_OFFERED && fault <= NO_SKILL;
                int number = ofProjects ? firstProjectWith(fault, plan) : firstPupilWith(fault, plan);
                if (number != NONE) {
                    return fault * 10 + number;
                }
            }
            return 0;
        }

        private int firstPupilWith(int fault, int[] plan) {
            for (int p = 0; p < pupilCount; p++) {
                if (pupilHas(fault, p, plan)) {
                    return p;
                }
            }
            return NONE;
        }

        private boolean pupilHas(int fault, int pupil, int[] plan) {
            Pupil who = pupils[pupil];
            boolean has = plan[pupil] != NONE;
            switch (fault) {
                case WITHOUT_PROJECT: return who.present && !has;
                case AWAY_WITH_PROJECT: return !who.present && has;
                default: return has && (who.apartBits & groupOf(plan, plan[pupil])) != 0;
            }
        }

        private int firstProjectWith(int fault, int[] plan) {
            for (int q = 0; q < projectCount; q++) {
                if (groupHas(fault, q, groupOf(plan, q))) {
                    return q;
                }
            }
            return NONE;
        }

        private boolean groupHas(int fault, int project, int group) {
            Project what = projects[project];
            if (group == 0) {
                return false;
            }
            switch (fault) {
                case NOT_OFFERED: return !what.onOffer;
                case NO_SIZE: return !what.takes(Integer.bitCount(group));
                case NO_LEADER: return what.lacksLeader(group);
                default: return lacksSkill(what, group);
            }
        }

        private boolean lacksSkill(Project what, int group) {
            int byOne = 0;
            int byTwo = 0;
            for (int p = 0; p < pupilCount; p++) {
                if ((group >> p & 1) != 0) {
                    byTwo |= byOne & pupils[p].skills;
                    byOne |= pupils[p].skills;
                }
            }
            int had = what.runsTwice(Integer.bitCount(group)) ? byTwo : byOne;
            return (what.skills & ~had) != 0;
        }

        private int groupOf(int[] plan, int project) {
            int group = 0;
            for (int p = 0; p < pupilCount; p++) {
                if (plan[p] == project) {
                    group |= 1 << p;
                }
            }
            return group;
        }

        /** Whether a group of PUPILS that are HERE may have a PROJECT in a RIGHT PLAN. */
        boolean allows(int project, int group) {
            for (int fault = NOT_OFFERED; fault <= NO_SKILL; fault++) {
                if (groupHas(fault, project, group)) {
                    return false;
                }
            }
            for (int p = 0; p < pupilCount; p++) {
                if ((group >> p & 1) != 0 && (pupils[p].apartBits & group) != 0) {
                    return false;
                }
            }
            return true;
        }
    }

    /** Which groups a PROJECT may have, and which can still grow to such a one: so no search asks twice. */
    private static final class Groups {
        private final int[] fitting = new int[1 << MOST_PUPILS];
        private final int[] open = new int[1 << MOST_PUPILS];

        void fill(Roll roll) {
            int present = roll.presentBits();
            // Downward, for a group's larger ones must stand before it is told what it can grow to.
            for (int group = fitting.length - 1; group >= 0; group--) {
                boolean allPresent = (group & ~present) == 0;
                int projects = 0;
                for (int q = 0; allPresent && q < roll.projectCount; q++) {
                    if (roll.allows(q, group)) {
                        projects |= 1 << q;
                    }
                }
                fitting[group] = projects;
                open[group] = projects;
                for (int p = 0; p < MOST_PUPILS; p++) {
                    open[group] |= open[group | 1 << p];
                }
            }
        }

        boolean fits(int project, int group) {
            return group >= 0 && group < fitting.length && (fitting[group] >> project & 1) != 0;
        }

        boolean canGrow(int project, int group) {
            return group >= 0 && group < open.length && (open[group] >> project & 1) != 0;
        }
    }

    /**
     * What makes one PLAN BETTER than another, as two numbers that add up over its PUPILS: a cost (from its
     * highest bits down: moves, RANKS of 6 to 2, GRIEF, pairs of FRIENDS that are missing) and, of equal
     * costs, a lot (a digit for each PUPIL, by LOTS). Less is BETTER. No part can grow into the next one: at most
     * 28 pairs, a GRIEF of 8 * 6 * 301, 8 PUPILS of a RANK.
     */
    private static final class Scale {
        static final int PAIR_BITS = 5;
        static final int ALL_PAIRS = 28;
        private static final int GRIEF_BITS = 15;
        private static final int COUNT_BITS = 4;
        private static final int RANK_SHIFT = PAIR_BITS + GRIEF_BITS;
        private static final int MOVE_SHIFT = RANK_SHIFT + COUNT_BITS * (UNWISHED - 1);
        private static final int NUMBER_BITS = 3;
        private static final int DIGIT_BITS = 6;
        private static final int COLUMNS = MOST_PROJECTS + 1;

        private final long[] costs = new long[MOST_PUPILS * COLUMNS];
        private final long[] digits = new long[MOST_PUPILS * COLUMNS];

        void fill(Roll roll) {
            for (int p = 0; p < roll.pupilCount; p++) {
                Pupil who = roll.pupilOf(p);
                if (who != null) {
                    fillPupil(p, roll.placeOf(p), who.score, who.ranks);
                }
            }
        }

        /** The column behind all PROJECTS is for a PUPIL without one. */
        void fillPupil(int pupil, int place, int score, int[] ranks) {
            for (int column = 0; column < COLUMNS; column++) {
                int rank = column < ranks.length ? ranks[column] : UNWISHED;
                long digit = rank << NUMBER_BITS | column;
                int cell = cellOf(pupil, column);
                costs[cell] = costOfRank(rank, score);
                digits[cell] = digit << DIGIT_BITS * (MOST_PUPILS - 1 - place);
            }
        }

        private static long costOfRank(int rank, int score) {
            long grief = (long) rank * (score + 1) << PAIR_BITS;
            return rank < 2 ? grief : grief + (1L << RANK_SHIFT + COUNT_BITS * (rank - 2));
        }

        /** Makes every PROJECT but the one that a PUPIL had cost a move. */
        void chargeMove(int pupil, int had) {
            for (int q = 0; q < MOST_PROJECTS; q++) {
                if (had != NONE && q != had) {
                    costs[cellOf(pupil, q)] += 1L << MOVE_SHIFT;
                }
            }
        }

        long costOf(int pupil, int project) {
            return costs[cellOf(pupil, project)];
        }

        long digitOf(int pupil, int project) {
            return digits[cellOf(pupil, project)];
        }

        /** Always within the table: what is no PROJECT stands in the last column. */
        private static int cellOf(int pupil, int project) {
            int row = pupil < 0 || pupil >= MOST_PUPILS ? 0 : pupil;
            int column = project < 0 || project >= MOST_PROJECTS ? MOST_PROJECTS : project;
            return row * COLUMNS + column;
        }
    }

    /** Goes through the RIGHT PLANS, one PUPIL that is HERE after the other. */
    private static final class Search {
        private static final long ABOVE_ALL = 1L << 62;

        private final Groups groups = new Groups();
        private final Scale scale = new Scale();
        private final int[] friendBits = new int[MOST_PUPILS];
        private final int[] groupOf = new int[MOST_PROJECTS];
        private final int[] trial = new int[MOST_PUPILS];
        private final int[] found = new int[MOST_PUPILS];
        private int presentBits;
        private int projectCount;
        private long bar;
        private long lotBar;
        private boolean lowersBar;
        private int hits;

        void prepare(Roll roll) {
            groups.fill(roll);
            scale.fill(roll);
            presentBits = roll.presentBits();
            projectCount = roll.projectCount;
            for (int p = 0; p < MOST_PUPILS; p++) {
                Pupil who = roll.pupilOf(p);
                friendBits[p] = who == null ? 0 : who.friendBits;
                trial[p] = NONE;
            }
        }

        /** Lets a PUPIL have other RANKS than by its WISHES, until the next prepare. */
        void tellRanks(int pupil, int place, int score, int[] ranks) {
            scale.fillPupil(pupil, place, score, ranks);
        }

        /** Lets fewer moves come before all else, until the next prepare. */
        void chargeMove(int pupil, int had) {
            scale.chargeMove(pupil, had);
        }

        boolean findBest() {
            begin(ABOVE_ALL, ABOVE_ALL, true);
            return hits > 0;
        }

        int countRight() {
            begin(ABOVE_ALL, ABOVE_ALL, false);
            return hits;
        }

        int countBetter(int[] plan) {
            long cost = Scale.ALL_PAIRS;
            long lot = 0;
            for (int p = 0; p < MOST_PUPILS && p < plan.length; p++) {
                if (isPresent(p)) {
                    cost += scale.costOf(p, plan[p]) - friendsBefore(p, plan);
                    lot += scale.digitOf(p, plan[p]);
                }
            }
            begin(cost, lot, false);
            return hits;
        }

        private boolean isPresent(int pupil) {
            return (presentBits >> pupil & 1) != 0;
        }

        /** How many of the PUPILS before one are HERE, its FRIENDS, and in its PROJECT. */
        private int friendsBefore(int pupil, int[] plan) {
            int counted = 0;
            for (int p = 0; p < pupil; p++) {
                boolean together = plan[pupil] != NONE && plan[p] == plan[pupil];
                if (together && isPresent(p) && (friendBits[pupil] >> p & 1) != 0) {
                    counted++;
                }
            }
            return counted;
        }

        private void begin(long firstBar, long firstLotBar, boolean lowers) {
            bar = firstBar;
            lotBar = firstLotBar;
            lowersBar = lowers;
            hits = 0;
            for (int q = 0; q < groupOf.length; q++) {
                groupOf[q] = 0;
            }
            extend(this, 0, Scale.ALL_PAIRS, 0);
        }

        private static void extend(Search s, int pupil, long cost, long lot) {
            // What stands above the pairs can only grow from here on.
            if (cost >> Scale.PAIR_BITS > s.bar >> Scale.PAIR_BITS) {
                return;
            }
            if (pupil < 0 || pupil >= MOST_PUPILS) {
                s.judge(cost, lot);
                return;
            }
            if (!s.isPresent(pupil)) {
                extend(s, pupil + 1, cost, lot);
                return;
            }
            for (int q = 0; q < s.projectCount; q++) {
                int others = s.groupOf[q];
                int group = others | 1 << pupil;
                if (s.groups.canGrow(q, group)) {
                    long pairs = Integer.bitCount(others & s.friendBits[pupil]);
                    s.groupOf[q] = group;
                    s.trial[pupil] = q;
                    extend(s, pupil + 1, cost + s.scale.costOf(pupil, q) - pairs, lot + s.scale.digitOf(pupil, q));
                    s.groupOf[q] = others;
                }
            }
        }

        private void judge(long cost, long lot) {
            for (int q = 0; q < projectCount; q++) {
                if (!groups.fits(q, groupOf[q])) {
                    return;
                }
            }
            if (cost > bar || cost == bar && lot >= lotBar) {
                return;
            }
            hits++;
            if (lowersBar) {
                bar = cost;
                lotBar = lot;
                System.arraycopy(trial, 0, found, 0, found.length);
            }
        }

        int foundFor(int pupil) {
            return pupil < 0 || pupil >= found.length ? NONE : found[pupil];
        }

        void copyFound(int[] plan) {
            for (int p = 0; p < found.length && p < plan.length; p++) {
                plan[p] = found[p];
            }
        }

        /** How many PUPILS that are HERE have another PROJECT in the PLAN found than they had. */
        int movedFrom(int[] plan) {
            int moved = 0;
            for (int p = 0; p < found.length && p < plan.length; p++) {
                if (isPresent(p) && plan[p] != NONE && plan[p] != found[p]) {
                    moved++;
                }
            }
            return moved;
        }
    }

    /** The years that were booked: what each PUPIL had, and its RANK (0 for one that had none). */
    private static final class Ledger {
        private final int[] projects = new int[MOST_YEARS * MOST_PUPILS];
        private final int[] ranks = new int[MOST_YEARS * MOST_PUPILS];
        int years;

        /** For the year that is about to be booked. */
        void note(int pupil, int project, int rank) {
            int at = cellOf(years, pupil);
            if (at != NONE) {
                projects[at] = project;
                ranks[at] = rank;
            }
        }

        int projectOf(int year, int pupil) {
            int at = cellOf(year, pupil);
            return at == NONE ? NONE : projects[at];
        }

        int rankOf(int year, int pupil) {
            int at = cellOf(year, pupil);
            return at == NONE ? 0 : ranks[at];
        }

        private static int cellOf(int year, int pupil) {
            boolean there = year >= 0 && year < MOST_YEARS && pupil >= 0 && pupil < MOST_PUPILS;
            return there ? year * MOST_PUPILS + pupil : NONE;
        }
    }
}
