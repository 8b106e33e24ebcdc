import java.util.Arrays;

/** A ship on which all lie cold but those whose turn it is: DOC.md tells what each call promises. */
public final class AwakeTurns {
    public static final int UNKNOWN = -1, OUTSIDE = -2, STATE = -3, FULL = -4, NONE = -9;
    public static final long LOST = Long.MIN_VALUE;

    private static final int NO_FAULT = 0, NULL = 1, CAST = 2, INDEX = 3, SIZE = 4;
    private static final int MONTHS = 12, MOST_SLEEPERS = 6, FEWEST_SLEEPERS = 2, ALL_SKILLS = 7;
    private static final int MOST_SETS = 1 << MOST_SLEEPERS;
    private static final int SHEETS = 4, LANES = 3, KINDS = 3, MOST_CELLS = 60;
    private static final int MOST_NOTES = 8, MOST_READINGS = 8;

    private final Sheet[] sheets;
    private final Crew crew;
    private final MonthWalk walk;
    private final Plan plan;
    private final News news;
    private final Marks marks;
    /** Turns that are only tried out; made once, so that no call needs a new row. */
    private final int[] tried;
    private int lastFault;

    public AwakeTurns() {
        sheets = new Sheet[SHEETS];
        for (int k = 0; k < SHEETS; k++) {
            sheets[k] = new Sheet();
        }
        crew = new Crew();
        walk = new MonthWalk(crew);
        plan = new Plan(crew);
        news = new News();
        marks = new Marks();
        tried = new int[MONTHS];
        lastFault = NO_FAULT;
    }

    // ---- 1 the ship

    public int ship(int sheet, int lane, int i, int n) {
        Sheet row = sheetAt(sheet);
        if (row == null) {
            return refused(UNKNOWN);
        }
        if (!isLane(lane)) {
            return refused(OUTSIDE);
        }
        int fault = row.faultOfRange(lane, i, n);
        if (fault != NO_FAULT) {
            return failed(fault);
        }
        lastFault = NO_FAULT;
        int place = Text.firstFault(row.cells, i, n);
        if (place != NONE) {
            return -100 - place;
        }
        crew.board(row.cells, i, n);
        news.forgetAll();
        return crew.count;
    }

    public int ofSleeper(int s, int what) {
        Sleeper one = crew.at(s);
        if (one == null) {
            return UNKNOWN;
        }
        switch (what) {
            case 0: return one.kindNumber();
            case 1: return one.skillSet;
            case 2: return one.bears;
            case 3: return one.harmOnce();
            default: return OUTSIDE;
        }
    }

    public int up(int s, int month, boolean is) {
        if (!crew.has(s)) {
            return UNKNOWN;
        }
        if (!isMonth(month)) {
            return OUTSIDE;
        }
        int was = crew.turns[month];
        int becomes = is ? was | 1 << s : was & ~(1 << s);
        crew.turns[month] = becomes;
        return was == becomes ? 0 : 1;
    }

    public int wants(int month, int skills) {
        if (!isMonth(month) || skills < 0 || skills > ALL_SKILLS) {
            return OUTSIDE;
        }
        if (noShip()) {
            return STATE;
        }
        int was = crew.wanted[month];
        crew.wanted[month] = skills;
        return was;
    }

    public int law(int v) {
        if (v != 0 && v != 1) {
            return OUTSIDE;
        }
        if (noShip()) {
            return STATE;
        }
        int was = crew.lawNow;
        crew.lawNow = v;
        return was;
    }

    public int note(int from, int to) {
        if (!crew.has(from) || !crew.has(to) || from == to) {
            return UNKNOWN;
        }
        return news.addNote(from, to);
    }

    public int tear(int k) {
        if (k < 0 || k > news.notes) {
            return OUTSIDE;
        }
        news.notes -= k;
        return news.notes;
    }

    // ---- 2 months

    public int awake(int month) {
        if (!isMonth(month)) {
            return OUTSIDE;
        }
        return noShip() ? STATE : crew.turns[month];
    }

    public int harm(int s, int month) {
        if (!crew.has(s)) {
            return UNKNOWN;
        }
        if (!isMonth(month)) {
            return OUTSIDE;
        }
        walk.goTo(crew.turns, month);
        return walk.harmSoFar[s];
    }

    public int skills(int s, int month) {
        if (!crew.has(s)) {
            return UNKNOWN;
        }
        if (!isMonth(month)) {
            return OUTSIDE;
        }
        walk.goTo(crew.turns, month);
        return walk.known[s];
    }

    public int lacks(int month) {
        if (!isMonth(month)) {
            return OUTSIDE;
        }
        if (noShip()) {
            return STATE;
        }
        walk.goTo(crew.turns, month);
        return walk.lacking;
    }

    public int wrong(int what) {
        if (what < 0 || what > 2) {
            return OUTSIDE;
        }
        if (noShip()) {
            return STATE;
        }
        if (what == 0) {
            return walk.firstWrong(crew.turns, MONTHS, true, false);
        }
        int month = walk.firstWrong(crew.turns, MONTHS, false, true);
        return what == 1 ? month : walk.whoIsSpent();
    }

    public int cover(int month) {
        if (!isMonth(month)) {
            return OUTSIDE;
        }
        return noShip() ? STATE : crew.fewestWith(crew.wanted[month]);
    }

    public int least(int month) {
        if (month != -1 && !isMonth(month)) {
            return OUTSIDE;
        }
        if (noShip()) {
            return STATE;
        }
        plan.reckon();
        int harm = plan.leastHarm();
        return harm == NONE || month == -1 ? harm : plan.whoIsUp(month);
    }

    public int judge(int sheet, int lane, int i, int n) {
        Sheet row = sheetAt(sheet);
        if (row == null) {
            return refused(UNKNOWN);
        }
        if (!isLane(lane)) {
            return refused(OUTSIDE);
        }
        if (noShip()) {
            return refused(STATE);
        }
        int fault = row.faultOfRange(lane, i, n);
        if (fault != NO_FAULT) {
            return failed(fault);
        }
        if (n > MONTHS || !crew.areSets(row.cells, i, n)) {
            return refused(OUTSIDE);
        }
        lastFault = NO_FAULT;
        System.arraycopy(row.cells, i, tried, 0, n);
        return walk.firstWrong(tried, n, true, true);
    }

    public int trades(int k) {
        if (k < -1) {
            return UNKNOWN;
        }
        if (noShip()) {
            return STATE;
        }
        int found = 0;
        for (int a = 0; a < crew.count; a++) {
            for (int b = a + 1; b < crew.count; b++) {
                if (mayTrade(a, b)) {
                    if (found == k) {
                        return 10 * a + b;
                    }
                    found++;
                }
            }
        }
        return k == -1 ? found : NONE;
    }

    // ---- 3 news

    public int knows(int from, int since, int to) {
        if (!crew.has(from) || !crew.has(to)) {
            return UNKNOWN;
        }
        if (!isMonth(since)) {
            return OUTSIDE;
        }
        news.spread(from, since, crew.turns);
        return news.firstMonthOf(to);
    }

    public int kept(int from, int since) {
        if (!crew.has(from)) {
            return UNKNOWN;
        }
        if (!isMonth(since)) {
            return OUTSIDE;
        }
        news.spread(from, since, crew.turns);
        return crew.everybody() & ~news.knowing[MONTHS - 1];
    }

    // ---- 4 who knew what

    public int reading(int s, int month, boolean knew) {
        if (!crew.has(s)) {
            return UNKNOWN;
        }
        if (!isMonth(month)) {
            return OUTSIDE;
        }
        return news.addReading(s, month, knew);
    }

    public int back(int k) {
        if (k < 0 || k > news.readings) {
            return OUTSIDE;
        }
        news.readings -= k;
        return news.readings;
    }

    public int began(int month) {
        if (!isMonth(month)) {
            return OUTSIDE;
        }
        if (noShip()) {
            return STATE;
        }
        int set = 0;
        for (int s = 0; s < crew.count; s++) {
            news.spread(s, month, crew.turns);
            if (news.makesReadingsSo()) {
                set |= 1 << s;
            }
        }
        return set;
    }

    public int woken(int from, int since, int month) {
        if (!crew.has(from)) {
            return UNKNOWN;
        }
        if (!isMonth(since) || !isMonth(month)) {
            return OUTSIDE;
        }
        System.arraycopy(crew.turns, 0, tried, 0, MONTHS);
        int set = 0;
        for (int s = 0; s < crew.count; s++) {
            tried[month] = crew.turns[month] | 1 << s;
            news.spread(from, since, tried);
            if (news.makesReadingsSo()) {
                set |= 1 << s;
            }
        }
        return set;
    }

    // ---- 5 odds, sheets, parts

    public long odds(int month, int which) {
        if (!isMonth(month) || which < 0 || which > 1 || noShip()) {
            return LOST;
        }
        int upper = waysThatGoWell(month);
        int lower = crew.setCount();
        // The lower number is a power of two, so halving is all that least terms can need.
        while (lower > 1 && upper % 2 == 0) {
            upper /= 2;
            lower /= 2;
        }
        return which == 0 ? upper : lower;
    }

    public int sheet(int k, int lane, int n) {
        Sheet row = sheetAt(k);
        if (row == null) {
            return refused(UNKNOWN);
        }
        if (!isLane(lane) || n > MOST_CELLS) {
            return refused(OUTSIDE);
        }
        if (n < 0) {
            return failed(SIZE);
        }
        lastFault = NO_FAULT;
        row.renew(lane, n);
        return 1;
    }

    public int lose(int k) {
        Sheet row = sheetAt(k);
        if (row == null) {
            return UNKNOWN;
        }
        int had = row.isNothing() ? 0 : 1;
        row.drop();
        return had;
    }

    public int put(int k, int i, int v) {
        Sheet row = sheetAt(k);
        if (row == null) {
            return refused(UNKNOWN);
        }
        if (row.isNothing()) {
            return failed(NULL);
        }
        if (i < 0 || i >= row.length) {
            return failed(INDEX);
        }
        lastFault = NO_FAULT;
        row.cells[i] = row.cut(v);
        return 1;
    }

    public long cell(int k, int i, int lane) {
        Sheet row = sheetAt(k);
        lastFault = NO_FAULT;
        if (row == null || !isLane(lane)) {
            return LOST;
        }
        lastFault = row.faultOfCell(lane, i);
        return lastFault == NO_FAULT ? row.cells[i] : LOST;
    }

    public int copy(int k, int i, int other, int j, int n) {
        Sheet from = sheetAt(k);
        Sheet to = sheetAt(other);
        if (from == null || to == null) {
            return refused(UNKNOWN);
        }
        if (from.isNothing() || to.isNothing()) {
            return failed(NULL);
        }
        if (from.lane != to.lane) {
            return failed(CAST);
        }
        if (n < 0 || !from.hasRange(i, n) || !to.hasRange(j, n)) {
            return failed(INDEX);
        }
        lastFault = NO_FAULT;
        System.arraycopy(from.cells, i, to.cells, j, n);
        return n;
    }

    public int tell(int s) {
        Sleeper one = crew.at(s);
        return one == null ? UNKNOWN : one.telling(marks);
    }

    public int greet(int s) {
        Sleeper one = crew.at(s);
        return one == null ? UNKNOWN : one.greeting(marks);
    }

    public int as(int s, int kind) {
        Sleeper one = crew.at(s);
        if (one == null) {
            return refused(UNKNOWN);
        }
        if (kind < 0 || kind >= KINDS) {
            return refused(OUTSIDE);
        }
        if (!isOfKind(one, kind)) {
            return failed(CAST);
        }
        lastFault = NO_FAULT;
        return 1;
    }

    public int trace() {
        return marks.value;
    }

    public int fault() {
        return lastFault;
    }

    public int many(int what) {
        switch (what) {
            case 0: return crew.count;
            case 1: return news.notes;
            case 2: return news.readings;
            case 3: return crew.lawNow;
            default: return OUTSIDE;
        }
    }

    // ---- what the calls share

    /** Of a call that names FAULTS: a refusal leaves none behind. */
    private int refused(int answer) {
        lastFault = NO_FAULT;
        return answer;
    }

    private int failed(int fault) {
        lastFault = fault;
        return -10 - fault;
    }

    private boolean noShip() {
        return crew.count == 0;
    }

    private Sheet sheetAt(int k) {
        return k < 0 || k >= SHEETS ? null : sheets[k];
    }

    private boolean mayTrade(int a, int b) {
        for (int m = 0; m < MONTHS; m++) {
            tried[m] = withBitsChanged(crew.turns[m], a, b);
        }
        return walk.firstWrong(tried, MONTHS, true, true) == NONE;
    }

    private int waysThatGoWell(int month) {
        int well = 0;
        for (int waking = 0; waking < crew.setCount(); waking++) {
            for (int m = 0; m <= month; m++) {
                tried[m] = crew.turns[m] & waking;
            }
            if (walk.firstWrong(tried, month + 1, true, false) == NONE) {
                well++;
            }
        }
        return well;
    }

    private static boolean isMonth(int month) {
        return month >= 0 && month < MONTHS;
    }

    private static boolean isLane(int lane) {
        return lane >= 0 && lane < LANES;
    }

    private static boolean isIn(int set, int k) {
        return (set >> k & 1) == 1;
    }

    private static int withBitsChanged(int set, int a, int b) {
        return isIn(set, a) == isIn(set, b) ? set : set ^ (1 << a | 1 << b);
    }

    private static boolean isOfKind(Sleeper one, int kind) {
        switch (kind) {
            case 1: return one instanceof Frail;
            case 2: return one instanceof Old;
            default: return true;
        }
    }

    /** A row of numbers of a LANE, or nothing; its cells are made once and used for every row that it gets. */
    private static final class Sheet {
        static final int NO_LANE = -1;

        final int[] cells = new int[MOST_CELLS];
        int lane = NO_LANE;
        int length = 0;

        boolean isNothing() {
            return lane == NO_LANE;
        }

        void drop() {
            lane = NO_LANE;
            length = 0;
        }

        void renew(int newLane, int n) {
            Arrays.fill(cells, 0);
            lane = newLane;
            length = n;
        }

        int cut(int v) {
            switch (lane) {
                case 0: return (byte) v;
                case 1: return (short) v;
                default: return v;
            }
        }

        /** Written without i + n, which might wrap around. */
        boolean hasRange(int i, int n) {
            return i >= 0 && i <= length && n <= length - i;
        }

        int faultOfRange(int asLane, int i, int n) {
            int fault = faultOfLane(asLane);
            if (fault != NO_FAULT) {
                return fault;
            }
            if (n < 0) {
                return SIZE;
            }
            return hasRange(i, n) ? NO_FAULT : INDEX;
        }

        int faultOfCell(int asLane, int i) {
            int fault = faultOfLane(asLane);
            if (fault != NO_FAULT) {
                return fault;
            }
            return i >= 0 && i < length ? NO_FAULT : INDEX;
        }

        private int faultOfLane(int asLane) {
            if (isNothing()) {
                return NULL;
            }
            return lane == asLane ? NO_FAULT : CAST;
        }
    }

    /** The TEXT of a SHIP: its codes, and which of them may stand at which place. */
    private static final class Text {
        static final int CODES_A_SLEEPER = 4;
        static final int LONGEST = 1 + CODES_A_SLEEPER * MOST_SLEEPERS;
        static final int SHORTEST = 1 + CODES_A_SLEEPER * FEWEST_SLEEPERS;

        /** The FIRST FAULT, as a place from i on; NONE: the TEXT is whole. */
        static int firstFault(int[] cells, int i, int n) {
            for (int place = 0; place < n; place++) {
                if (!mayStand(cells[i + place], place)) {
                    return place;
                }
            }
            boolean isWhole = n >= SHORTEST && n % CODES_A_SLEEPER == 1;
            return isWhole ? NONE : n;
        }

        private static boolean mayStand(int code, int place) {
            if (place == 0) {
                return code == 'a';
            }
            if (place >= LONGEST) {
                return false;
            }
            switch (place % CODES_A_SLEEPER) {
                case 1: return code == ';';
                case 2: return code == 's' || code == 'f' || code == 'o';
                case 3: return code >= '0' && code <= '7';
                default: return code >= '1' && code <= '9';
            }
        }

        static Sleeper sleeper(int number, int letter, int skills, int bears) {
            int skillSet = skills - '0';
            int most = bears - '0';
            switch (letter) {
                case 'f': return new Frail(number, skillSet, most);
                case 'o': return new Old(number, skillSet, most);
                default: return new Sleeper(number, skillSet, most);
            }
        }
    }

    /** TRACE: where the bodies leave their numbers. */
    private static final class Marks {
        int value = 0;

        void leave(int number) {
            value = 31 * value + number;
        }
    }

    private static class Sleeper {
        final int number;
        final int skillSet;
        final int bears;

        Sleeper(int number, int skillSet, int bears) {
            this.number = number;
            this.skillSet = skillSet;
            this.bears = bears;
        }

        int kindNumber() {
            return 0;
        }

        int harmOnce() {
            return 1;
        }

        int telling(Marks marks) {
            return plainTelling(marks);
        }

        /** A SLEEPER's own body, for an OLD one too, who must reach it past that of a FRAIL one. */
        final int plainTelling(Marks marks) {
            marks.leave(1);
            return bears;
        }

        int greeting(Marks marks) {
            marks.leave(4);
            return number;
        }
    }

    private static class Frail extends Sleeper {
        Frail(int number, int skillSet, int bears) {
            super(number, skillSet, bears);
        }

        @Override
        int kindNumber() {
            return 1;
        }

        @Override
        int harmOnce() {
            return super.harmOnce() + 1;
        }

        @Override
        int telling(Marks marks) {
            marks.leave(2);
            return super.telling(marks) + 100;
        }
    }

    private static final class Old extends Frail {
        Old(int number, int skillSet, int bears) {
            super(number, skillSet, bears);
        }

        @Override
        int kindNumber() {
            return 2;
        }

        @Override
        int harmOnce() {
            return 2 * super.harmOnce();
        }

        @Override
        int telling(Marks marks) {
            marks.leave(3);
            int asFrail = super.telling(marks);
            return asFrail + plainTelling(marks);
        }

        @Override
        int greeting(Marks marks) {
            marks.leave(5);
            return 60;
        }
    }

    /** The SLEEPERS of the SHIP, their TURNS, what the MONTHS want, and the LAW; none of all while there is no SHIP. */
    private static final class Crew {
        final Sleeper[] sleepers = new Sleeper[MOST_SLEEPERS];
        final int[] turns = new int[MONTHS];
        final int[] wanted = new int[MONTHS];
        /** Of each set of SLEEPERS: the SKILLS that they have together, by the TEXT. */
        final int[] skillsOfSet = new int[MOST_SETS];
        /** Of each set of SLEEPERS: the HARM if all of them are THAWED once. */
        final int[] harmOfSet = new int[MOST_SETS];
        int count = 0;
        int lawNow = 0;

        /** Takes a TEXT that has been found whole. */
        void board(int[] cells, int i, int n) {
            count = 0;
            for (int at = i + 1; at + 3 < i + n && count < MOST_SLEEPERS; at += Text.CODES_A_SLEEPER) {
                sleepers[count] = Text.sleeper(count, cells[at + 1], cells[at + 2], cells[at + 3]);
                tellSetsWith(count);
                count++;
            }
            Arrays.fill(turns, 0);
            Arrays.fill(wanted, 0);
            lawNow = 0;
        }

        /** The sets whose greatest number is s: each is s and a set of lesser ones. */
        private void tellSetsWith(int s) {
            int bit = 1 << s;
            Sleeper one = sleepers[s];
            for (int lesser = 0; lesser < bit; lesser++) {
                skillsOfSet[bit | lesser] = skillsOfSet[lesser] | one.skillSet;
                harmOfSet[bit | lesser] = harmOfSet[lesser] + one.harmOnce();
            }
        }

        boolean has(int s) {
            return s >= 0 && s < count;
        }

        Sleeper at(int s) {
            return has(s) ? sleepers[s] : null;
        }

        int setCount() {
            return 1 << count;
        }

        int everybody() {
            return setCount() - 1;
        }

        boolean areSets(int[] cells, int i, int n) {
            for (int k = 0; k < n; k++) {
                if ((cells[i + k] & ~everybody()) != 0) {
                    return false;
                }
            }
            return true;
        }

        boolean meets(int set, int skills) {
            return (skills & ~skillsOfSet[set]) == 0;
        }

        /** COVER; the sets are tried from the least on, so that the least of the fewest is kept. */
        int fewestWith(int skills) {
            int best = NONE;
            for (int set = 0; set < setCount(); set++) {
                if (meets(set, skills) && (best == NONE || Integer.bitCount(set) < Integer.bitCount(best))) {
                    best = set;
                }
            }
            return best;
        }
    }

    /** Goes through TURNS MONTH by MONTH: HARM, KNOWLEDGE and LACKS as they are in the MONTH it has come to. */
    private static final class MonthWalk {
        private final Crew crew;
        final int[] harmSoFar = new int[MOST_SLEEPERS];
        final int[] known = new int[MOST_SLEEPERS];
        int lacking = 0;
        private int upBefore = 0;

        MonthWalk(Crew crew) {
            this.crew = crew;
        }

        void goTo(int[] turns, int month) {
            begin();
            for (int m = 0; m <= month; m++) {
                enter(turns[m], crew.wanted[m]);
            }
        }

        /** The first MONTH that LACKS anything (ofLack), or in which one is SPENT (ofSpent); NONE. */
        int firstWrong(int[] turns, int months, boolean ofLack, boolean ofSpent) {
            begin();
            for (int m = 0; m < months; m++) {
                enter(turns[m], crew.wanted[m]);
                if (ofLack && lacking != 0 || ofSpent && whoIsSpent() != NONE) {
                    return m;
                }
            }
            return NONE;
        }

        int whoIsSpent() {
            for (int s = 0; s < crew.count; s++) {
                if (harmSoFar[s] > crew.sleepers[s].bears) {
                    return s;
                }
            }
            return NONE;
        }

        private void begin() {
            for (int s = 0; s < crew.count; s++) {
                harmSoFar[s] = 0;
                known[s] = crew.sleepers[s].skillSet;
            }
            lacking = 0;
            upBefore = 0;
        }

        private void enter(int up, int wanted) {
            if (crew.lawNow == 1) {
                teachEachOther(upBefore);
            }
            thaw(up & ~upBefore);
            lacking = wanted & ~knownBy(up);
            upBefore = up;
        }

        private void teachEachOther(int set) {
            int together = knownBy(set);
            for (int s = 0; s < crew.count; s++) {
                if (isIn(set, s)) {
                    known[s] = together;
                }
            }
        }

        private void thaw(int set) {
            for (int s = 0; s < crew.count; s++) {
                if (isIn(set, s)) {
                    harmSoFar[s] += crew.sleepers[s].harmOnce();
                }
            }
        }

        private int knownBy(int set) {
            int together = 0;
            for (int s = 0; s < crew.count; s++) {
                if (isIn(set, s)) {
                    together |= known[s];
                }
            }
            return together;
        }
    }

    /** LEAST HARM, and the first TURNS that do no more. */
    private static final class Plan {
        /** More than any HARM can be, and far enough from the greatest int to be added to. */
        static final int TOO_MUCH = 1 << 20;

        private final Crew crew;
        /** rest[m][set]: the least HARM from MONTH m on, if set was UP in the one ahead of it. */
        private final int[][] rest = new int[MONTHS + 1][MOST_SETS];

        Plan(Crew crew) {
            this.crew = crew;
        }

        void reckon() {
            for (int m = MONTHS - 1; m >= 0; m--) {
                for (int set = 0; set < crew.setCount(); set++) {
                    rest[m][set] = restWith(set, m);
                }
                for (int s = 0; s < crew.count; s++) {
                    choose(rest[m], s);
                }
            }
        }

        int leastHarm() {
            return rest[0][0] >= TOO_MUCH ? NONE : rest[0][0];
        }

        /** Who is UP in a MONTH by the first of the best TURNS: of each MONTH on the way the least set that stays best. */
        int whoIsUp(int month) {
            int up = 0;
            for (int m = 0; m <= month; m++) {
                up = firstBest(m, up);
            }
            return up;
        }

        /** HARM after MONTH m, if set is UP in it. */
        private int restWith(int set, int m) {
            return crew.meets(set, crew.wanted[m]) ? rest[m + 1][set] : TOO_MUCH;
        }

        /**
         * Bit s of the row's number turns from "is UP" to "was UP in the MONTH ahead". Each SLEEPER's HARM stands
         * for itself, so one bit at a time will do, where all pairs of sets would take ten times as long.
         */
        private void choose(int[] row, int s) {
            int bit = 1 << s;
            int harm = crew.harmOfSet[bit];
            for (int set = 0; set < crew.setCount(); set++) {
                if (!isIn(set, s)) {
                    int cold = row[set];
                    int warm = row[set | bit];
                    row[set] = Math.min(cold, warm + harm);
                    row[set | bit] = Math.min(cold, warm);
                }
            }
        }

        private int firstBest(int m, int before) {
            for (int set = 0; set < crew.setCount(); set++) {
                if (crew.harmOfSet[set & ~before] + restWith(set, m) == rest[m][before]) {
                    return set;
                }
            }
            return 0;
        }
    }

    /** NOTES, READINGS, and how NEWS spreads by mouth and by NOTES. */
    private static final class News {
        private final int[] noteFrom = new int[MOST_NOTES];
        private final int[] noteTo = new int[MOST_NOTES];
        private final int[] readingOf = new int[MOST_READINGS];
        private final int[] readingMonth = new int[MOST_READINGS];
        private final int[] readingBit = new int[MOST_READINGS];
        /** Who knew the NEWS that was spread last, as each MONTH ended. */
        final int[] knowing = new int[MONTHS];
        int notes = 0;
        int readings = 0;

        void forgetAll() {
            notes = 0;
            readings = 0;
        }

        int addNote(int from, int to) {
            if (notes >= MOST_NOTES) {
                return FULL;
            }
            noteFrom[notes] = from;
            noteTo[notes] = to;
            notes++;
            return notes - 1;
        }

        int addReading(int s, int month, boolean knew) {
            if (readings >= MOST_READINGS) {
                return FULL;
            }
            readingOf[readings] = s;
            readingMonth[readings] = month;
            readingBit[readings] = knew ? 1 : 0;
            readings++;
            return readings - 1;
        }

        void spread(int from, int since, int[] turns) {
            int know = 0;
            int wrote = 0;
            for (int m = 0; m < MONTHS; m++) {
                if (m == since) {
                    know = 1 << from;
                }
                know |= readersOf(wrote) & turns[m];
                if ((know & turns[m]) != 0) {
                    know |= turns[m];
                }
                // A NOTE tells only what its writer knew as a MONTH ended: from the next one on it may be read.
                wrote |= know & turns[m];
                knowing[m] = know;
            }
        }

        private int readersOf(int writers) {
            int readers = 0;
            for (int k = 0; k < notes; k++) {
                if (isIn(writers, noteFrom[k])) {
                    readers |= 1 << noteTo[k];
                }
            }
            return readers;
        }

        int firstMonthOf(int s) {
            for (int m = 0; m < MONTHS; m++) {
                if (isIn(knowing[m], s)) {
                    return m;
                }
            }
            return NONE;
        }

        boolean makesReadingsSo() {
            for (int k = 0; k < readings; k++) {
                int bit = knowing[readingMonth[k]] >> readingOf[k] & 1;
                if (bit != readingBit[k]) {
                    return false;
                }
            }
            return true;
        }
    }
}
