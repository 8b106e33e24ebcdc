/** Odds, sheets, bodies and faults: promises 24 to 35. */
final class EdgesOfSheets {
    private static final int UNKNOWN = AwakeTurns.UNKNOWN, OUTSIDE = AwakeTurns.OUTSIDE;
    private static final int FAR = Edge.FAR, FAR_BELOW = Edge.FAR_BELOW;
    private static final long LOST = AwakeTurns.LOST;
    private final Edge e;

    EdgesOfSheets(Edge e) {
        this.e = e;
    }

    void run() {
        oddsOfSets();
        oddsUpToAMonth();
        sheetsHaveNothing();
        rowsOfEachLength();
        lanesCut();
        traceWraps();
        tellingOfKinds();
        greetedByWhom();
        odds();
        sheet();
        lose();
        put();
        cell();
        copy();
        copyRefused();
        tell();
        greet();
        as();
        trace();
        fault();
        faultOfNoOtherCall();
        many();
    }

    private void oddsOfSets() {
        e.sentence(0, "ODDS: if each SLEEPER never wakes, or is as told (all such sets alike)");
        AwakeTurns x = Ships.of("a;s19;s19;s29");
        x.wants(0, 1);
        e.odds(x, 0, 0, 1);
        x.up(0, 0, true);
        e.odds(x, 0, 1, 2);
        x.up(1, 0, true);
        e.odds(x, 0, 3, 4);
        x.wants(0, 3);
        e.odds(x, 0, 0, 1);
        x.up(2, 0, true);
        e.odds(x, 0, 3, 8);
        x.wants(0, 0);
        e.odds(x, 0, 1, 1);
        // That one is SPENT is not asked for here.
        AwakeTurns spent = Ships.of("a;o11;s19");
        spent.up(0, 0, true);
        e.is(spent.wrong(1), 0);
        e.odds(spent, 11, 1, 1);
    }

    private void oddsUpToAMonth() {
        e.sentence(0, "the share of those by which no MONTH up to one LACKS anything, by the LAW");
        AwakeTurns x = Ships.of("a;s19;s09;s29");
        Ships.turns(x, 3, 2, 0, 0, 0, 4, 0, 0, 0, 0, 0, 4);
        x.wants(5, 2);
        x.wants(11, 1);
        e.odds(x, 4, 1, 1);
        e.odds(x, 5, 1, 2);
        e.odds(x, 10, 1, 2);
        e.odds(x, 11, 0, 1);
        x.wants(1, 1);
        e.odds(x, 0, 1, 1);
        e.odds(x, 1, 0, 1);
        x.law(1);
        e.odds(x, 0, 1, 1);
        e.odds(x, 1, 1, 4);
        e.odds(x, 5, 1, 8);
        e.odds(x, 10, 1, 8);
        e.odds(x, 11, 0, 1);
        e.is(x.awake(0), 3);
    }

    private void sheetsHaveNothing() {
        e.sentence(0, "SHEETS 0 .. 3 have nothing (at first)");
        for (int k = 0; k < 4; k++) {
            AwakeTurns x = new AwakeTurns();
            e.is(x.lose(k), 0);
            e.is(x.put(k, 0, 0), -11);
            e.is(x.cell(k, 0, 0), LOST);
            e.is(x.fault(), 1);
            e.is(x.sheet(k, 0, 1), 1);
            e.is(x.put(k, 0, 7), 1);
            for (int other = 0; other < 4; other++) {
                e.is(x.cell(other, 0, 0), other == k ? 7 : LOST);
            }
        }
    }

    private void rowsOfEachLength() {
        e.sentence(0, "or a row of 0 .. 60 numbers (0 at first) of a LANE: 0 bytes, 1 shorts, 2 ints");
        for (int lane = 0; lane < 3; lane++) {
            for (int n = 0; n <= 60; n++) {
                AwakeTurns x = new AwakeTurns();
                Ships.row(x, 1, lane, new int[60]);
                for (int i = 0; i < 60; i++) {
                    x.put(1, i, -1);
                }
                e.is(x.sheet(1, lane, n), 1);
                for (int i = 0; i < n; i++) {
                    e.is(x.cell(1, i, lane), 0);
                }
                e.is(x.cell(1, n, lane), LOST);
                e.is(x.fault(), 3);
                e.is(x.put(1, n, 1), -13);
            }
        }
    }

    private void lanesCut() {
        e.sentence(0, "what comes to a cell of it is cut to its LANE");
        int[] values = {0, -1, 127, 128, 255, 256, -128, -129, 32767, 32768, 65535, 65536, -32768, -32769, FAR, FAR_BELOW};
        int[] bytes = {0, -1, 127, -128, -1, 0, -128, 127, -1, 0, -1, 0, 0, -1, -1, 0};
        int[] shorts = {0, -1, 127, 128, 255, 256, -128, -129, 32767, -32768, -1, 0, -32768, 32767, -1, 0};
        int[][] due = {bytes, shorts, values};
        AwakeTurns x = new AwakeTurns();
        for (int lane = 0; lane < 3; lane++) {
            x.sheet(0, lane, 2);
            for (int k = 0; k < values.length; k++) {
                e.is(x.put(0, 0, values[k]), 1);
                e.is(x.cell(0, 0, lane), due[lane][k]);
                e.is(x.copy(0, 0, 0, 1, 1), 1);
                e.is(x.cell(0, 1, lane), due[lane][k]);
            }
        }
        // What was cut as a byte is a code of a TEXT.
        AwakeTurns y = new AwakeTurns();
        Ships.write(y, 0, 0, 0, "a;s11;s11");
        y.put(0, 0, 256 + 97);
        e.is(y.ship(0, 0, 0, 9), 2);
    }

    private void traceWraps() {
        e.sentence(0, "TELLING of SLEEPERS by bodies that leave their number in TRACE (an int that wraps, 0 at first, becomes"
            + " 31 times it and the number) as they begin");
        AwakeTurns x = Ships.of("a;s04;s01");
        e.is(x.trace(), 0);
        long due = 0;
        boolean wrapped = false;
        for (int k = 0; k < 100; k++) {
            e.is(x.tell(0), 4);
            due = 31 * due + 1;
            wrapped |= due != (int) due;
            due = (int) due;
            e.is(x.trace(), due);
        }
        e.is(wrapped ? 1 : 0, 1);
        // As they begin: 3 and 2 stand ahead of the bodies that they call on.
        AwakeTurns y = Ships.of("a;o09;f09");
        y.tell(0);
        e.is(y.trace(), 3 * 29791 + 2 * 961 + 31 + 1);
        y.tell(1);
        e.is(y.trace(), (3 * 29791 + 2 * 961 + 31 + 1) * 961 + 2 * 31 + 1);
    }

    private void told(String text, int gives, int... bodies) {
        AwakeTurns x = Ships.of(text);
        e.is(x.tell(0), gives);
        int trace = 0;
        for (int body : bodies) {
            trace = 31 * trace + body;
        }
        e.is(x.trace(), trace);
    }

    private void tellingOfKinds() {
        e.sentence(0, "SLEEPER (1): BEARS.");
        told("a;s01;s01", 1, 1);
        told("a;s09;s01", 9, 1);
        e.sentence(0, "FRAIL (2): what SLEEPER's gives, and 100.");
        told("a;f01;s01", 101, 2, 1);
        told("a;f09;s01", 109, 2, 1);
        e.sentence(0, "OLD (3): what FRAIL's gives, and what SLEEPER's gives (FRAIL's left out).");
        told("a;o01;s01", 102, 3, 2, 1, 1);
        told("a;o09;s01", 118, 3, 2, 1, 1);
    }

    private void greetedByWhom() {
        e.sentence(0, "GREETED by a lent body (4): its number");
        AwakeTurns x = Ships.of("a;s01;f01;o01;s01;f01;o01");
        int[] due = {0, 1, 60, 3, 4, 60};
        int trace = 0;
        for (int s = 0; s < 6; s++) {
            e.is(x.greet(s), due[s]);
            trace = 31 * trace + (due[s] == 60 ? 5 : 4);
            e.is(x.trace(), trace);
        }
        e.sentence(0, "OLD ones have their own (5): 60");
        AwakeTurns y = Ships.of("a;o01;s01");
        e.is(y.greet(0), 60);
        e.is(y.trace(), 5);
    }

    private void odds() {
        e.sentence(24, "ODDS (which 0 the upper, 1 the lower number)");
        AwakeTurns x = Ships.of("a;s19;s19");
        x.wants(11, 1);
        Ships.turns(x, 0, 0, 0, 0, 0, 0, 0, 0, 0, 0, 0, 3);
        e.is(x.odds(11, 0), 3);
        e.is(x.odds(11, 1), 4);
        e.is(x.odds(10, 0), 1);
        e.is(x.odds(10, 1), 1);
        e.asks(y -> y.odds(0, 0), y -> y.odds(11, 1));
        e.sentence(24, "LOST: OUTSIDE: month, which");
        for (int m : Edge.NO_MONTHS) {
            e.refuses(LOST, y -> y.odds(m, 0), y -> y.odds(m, 1));
        }
        e.refuses(LOST, y -> y.odds(0, -1), y -> y.odds(11, 2), y -> y.odds(0, FAR), y -> y.odds(0, FAR_BELOW));
        e.sentence(24, "STATE: there is no SHIP");
        e.refusesWithoutShip(LOST, y -> y.odds(0, 0), y -> y.odds(11, 1));
    }

    private void sheet() {
        e.sentence(25, "A SHEET gets a new row: 1");
        AwakeTurns x = Ships.dressed();
        e.is(x.sheet(0, 1, 60), 1);
        e.is(x.cell(0, 0, 1), 0);
        e.is(x.cell(0, 59, 1), 0);
        e.is(x.cell(0, 60, 1), LOST);
        e.is(x.sheet(3, 2, 0), 1);
        e.is(x.lose(3), 1);
        e.is(x.many(0), 4);
        e.sentence(25, "UNKNOWN");
        for (int k : Edge.NO_SHEETS) {
            e.declines(UNKNOWN, y -> y.sheet(k, 0, 1), y -> y.sheet(k, 2, 60));
        }
        e.sentence(25, "OUTSIDE: lane, n above 60");
        for (int lane : Edge.NO_LANES) {
            e.declines(OUTSIDE, y -> y.sheet(0, lane, 1), y -> y.sheet(3, lane, 61));
        }
        e.declines(OUTSIDE, y -> y.sheet(0, 0, 61), y -> y.sheet(1, 1, 61), y -> y.sheet(3, 2, 61), y -> y.sheet(0, 0, FAR));
        e.sentence(25, "SIZE");
        e.fails(Edge.SIZE, y -> y.sheet(0, 0, -1), y -> y.sheet(1, 2, -1), y -> y.sheet(3, 1, -1), y -> y.sheet(2, 2, FAR_BELOW));
    }

    private void lose() {
        e.sentence(26, "A SHEET has nothing: 1");
        AwakeTurns x = Ships.dressed();
        for (int k = 0; k < 3; k++) {
            e.is(x.lose(k), 1);
            e.is(x.put(k, 0, 1), -11);
        }
        e.is(x.many(0), 4);
        x.sheet(3, 0, 0);
        e.is(x.lose(3), 1);
        e.is(x.put(3, 0, 1), -11);
        e.sentence(26, "0: it had nothing");
        for (int k = 0; k < 4; k++) {
            e.is(x.lose(k), 0);
        }
        e.refuses(0, y -> y.lose(3));
        e.sentence(26, "UNKNOWN");
        for (int k : Edge.NO_SHEETS) {
            e.refuses(UNKNOWN, y -> y.lose(k));
        }
    }

    private void put() {
        e.sentence(27, "Cell i of a SHEET becomes v: 1");
        AwakeTurns x = new AwakeTurns();
        x.sheet(2, 1, 60);
        for (int i = 0; i < 60; i++) {
            e.is(x.put(2, i, 1000 + i), 1);
        }
        for (int i = 0; i < 60; i++) {
            e.is(x.cell(2, i, 1), 1000 + i);
        }
        e.sentence(27, "UNKNOWN");
        for (int k : Edge.NO_SHEETS) {
            e.declines(UNKNOWN, y -> y.put(k, 0, 1), y -> y.put(k, -1, 1));
        }
        e.sentence(27, "NULL");
        e.fails(Edge.NULL, y -> y.put(3, 0, 1), y -> y.put(3, -1, 1), y -> y.put(3, FAR, 1));
        e.sentence(27, "INDEX");
        e.fails(Edge.INDEX, y -> y.put(0, -1, 1), y -> y.put(0, 17, 1), y -> y.put(1, 3, 1), y -> y.put(2, 14, 1), y -> y.put(2, 59, 1),
            y -> y.put(2, 60, 1), y -> y.put(2, FAR, 1), y -> y.put(2, FAR_BELOW, 1));
        AwakeTurns empty = new AwakeTurns();
        empty.sheet(0, 0, 0);
        e.is(empty.put(0, 0, 1), -13);
    }

    private void cell() {
        e.sentence(28, "Cell i of what a SHEET has, taken as a row of a LANE");
        AwakeTurns x = Ships.dressed();
        for (int i = 0; i < 17; i++) {
            e.is(x.cell(0, i, 0), Ships.TEXT.charAt(i));
        }
        for (int i = 0; i < 3; i++) {
            e.is(x.cell(1, i, 1), Ships.SHORTS[i]);
        }
        for (int i = 0; i < 14; i++) {
            e.is(x.cell(2, i, 2), Ships.INTS[i]);
        }
        e.keepsAll(-300, y -> y.cell(1, 1, 1));
        e.sentence(28, "LOST: UNKNOWN, OUTSIDE: lane");
        for (int k : Edge.NO_SHEETS) {
            e.declines(LOST, y -> y.cell(k, 0, 0), y -> y.cell(k, -1, 3));
        }
        for (int lane : Edge.NO_LANES) {
            e.declines(LOST, y -> y.cell(0, 0, lane), y -> y.cell(3, 0, lane), y -> y.cell(0, 17, lane));
        }
        e.sentence(28, "FAULTS CAST (nothing is no CAST), NULL, INDEX");
        e.losesBy(Edge.CAST, y -> y.cell(0, 0, 1), y -> y.cell(1, 0, 2), y -> y.cell(2, 0, 0), y -> y.cell(2, 14, 1));
        e.losesBy(Edge.NULL, y -> y.cell(3, 0, 0), y -> y.cell(3, 0, 1), y -> y.cell(3, -1, 2));
        e.losesBy(Edge.INDEX, y -> y.cell(0, 17, 0), y -> y.cell(1, 3, 1), y -> y.cell(2, 14, 2), y -> y.cell(2, -1, 2),
            y -> y.cell(2, 59, 2),
            y -> y.cell(2, 60, 2), y -> y.cell(2, FAR, 2), y -> y.cell(2, FAR_BELOW, 2));
    }

    private void copied(int i, int j, int n, int... due) {
        AwakeTurns x = new AwakeTurns();
        Ships.row(x, 0, 0, 1, 2, 3, 4, 5);
        Ships.row(x, 1, 0, 1, 2, 3, 4, 5);
        Ships.row(x, 2, 0, 11, 12, 13, 14, 15);
        e.is(x.copy(0, i, 0, j, n), n);
        e.is(x.copy(1, i, 2, j, n), n);
        for (int k = 0; k < 5; k++) {
            e.is(x.cell(0, k, 0), due[k]);
            e.is(x.cell(1, k, 0), k + 1);
            e.is(x.cell(2, k, 0), k >= j && k < j + n ? i + k - j + 1 : 11 + k);
        }
    }

    private void copy() {
        e.sentence(29, "n cells of a SHEET from i on go to another one (perhaps the same) from j on, as they were: n");
        copied(0, 0, 5, 1, 2, 3, 4, 5);
        copied(0, 1, 4, 1, 1, 2, 3, 4);
        copied(1, 0, 4, 2, 3, 4, 5, 5);
        copied(0, 2, 3, 1, 2, 1, 2, 3);
        copied(2, 0, 3, 3, 4, 5, 4, 5);
        copied(4, 0, 1, 5, 2, 3, 4, 5);
        copied(0, 4, 1, 1, 2, 3, 4, 1);
        copied(5, 0, 0, 1, 2, 3, 4, 5);
        copied(0, 5, 0, 1, 2, 3, 4, 5);
        copied(5, 5, 0, 1, 2, 3, 4, 5);
        AwakeTurns x = new AwakeTurns();
        Ships.row(x, 0, 2, FAR, FAR_BELOW);
        x.sheet(1, 2, 60);
        e.is(x.copy(0, 0, 1, 58, 2), 2);
        e.is(x.cell(1, 58, 2), FAR);
        e.is(x.cell(1, 59, 2), FAR_BELOW);
        e.is(x.fault(), 0);
    }

    private void copyRefused() {
        e.sentence(29, "UNKNOWN");
        for (int k : Edge.NO_SHEETS) {
            e.declines(UNKNOWN, y -> y.copy(k, 0, 0, 0, 1), y -> y.copy(0, 0, k, 0, 1), y -> y.copy(k, 0, k, 0, 0),
                y -> y.copy(3, 0, k, 0, 0),
                y -> y.copy(k, 0, 3, 0, 0));
        }
        e.sentence(29, "FAULTS NULL (the first, the other)");
        e.fails(Edge.NULL, y -> y.copy(3, 0, 0, 0, 0), y -> y.copy(0, 0, 3, 0, 0), y -> y.copy(3, 0, 3, 0, 0), y -> y.copy(3, -1, 1, 0, 1),
            y -> y.copy(1, 0, 3, -1, 1), y -> y.copy(2, 0, 3, 0, -1));
        e.sentence(29, "CAST (unlike LANES)");
        e.fails(Edge.CAST, y -> y.copy(0, 0, 1, 0, 1), y -> y.copy(1, 0, 0, 0, 1), y -> y.copy(0, 0, 2, 0, 0), y -> y.copy(2, 0, 1, 0, -1));
        e.sentence(29, "INDEX: i, j, n below 0 or beyond");
        e.fails(Edge.INDEX, y -> y.copy(2, -1, 2, 0, 1), y -> y.copy(2, 0, 2, -1, 1), y -> y.copy(2, 0, 2, 0, -1),
            y -> y.copy(2, 14, 2, 0, 1),
            y -> y.copy(2, 0, 2, 14, 1), y -> y.copy(2, 0, 2, 0, 15), y -> y.copy(2, 15, 2, 0, 0), y -> y.copy(2, 0, 2, 15, 0));
        e.fails(Edge.INDEX, y -> y.copy(2, 2, 2, 0, 13), y -> y.copy(2, 0, 2, 2, 13), y -> y.copy(2, FAR, 2, 0, 1),
            y -> y.copy(2, 0, 2, FAR, 1),
            y -> y.copy(2, 1, 2, 1, FAR), y -> y.copy(2, 0, 2, 0, FAR_BELOW), y -> y.copy(2, FAR_BELOW, 2, 0, 0),
            y -> y.copy(2, 0, 2, FAR_BELOW, 0), y -> y.copy(2, 14, 2, 14, -1));
    }

    private void tell() {
        e.sentence(30, "TELLING of a SLEEPER");
        AwakeTurns x = Ships.dressed();
        int[] due = {5, 109, 118, 3};
        for (int s = 0; s < 4; s++) {
            e.is(x.tell(s), due[s]);
        }
        e.sentence(30, "UNKNOWN");
        for (int s : Edge.NO_SLEEPERS) {
            e.refuses(UNKNOWN, y -> y.tell(s));
        }
        e.refusesWithoutShip(UNKNOWN, y -> y.tell(0));
    }

    private void greet() {
        e.sentence(31, "How it is GREETED");
        AwakeTurns x = Ships.dressed();
        int[] due = {0, 1, 60, 3};
        for (int s = 0; s < 4; s++) {
            e.is(x.greet(s), due[s]);
        }
        e.sentence(31, "UNKNOWN");
        for (int s : Edge.NO_SLEEPERS) {
            e.refuses(UNKNOWN, y -> y.greet(s));
        }
        e.refusesWithoutShip(UNKNOWN, y -> y.greet(0));
    }

    private void as() {
        e.sentence(32, "A SLEEPER, taken as one of a kind: 1");
        e.keepsAll(1, y -> y.as(0, 0), y -> y.as(1, 0), y -> y.as(1, 1), y -> y.as(2, 0), y -> y.as(2, 1), y -> y.as(2, 2),
            y -> y.as(3, 0));
        e.sentence(32, "UNKNOWN");
        for (int s : Edge.NO_SLEEPERS) {
            e.declines(UNKNOWN, y -> y.as(s, 0), y -> y.as(s, 2));
        }
        e.declinesWithoutShip(UNKNOWN, y -> y.as(0, 0));
        e.sentence(32, "OUTSIDE");
        e.declines(OUTSIDE, y -> y.as(0, -1), y -> y.as(2, 3), y -> y.as(2, FAR), y -> y.as(2, FAR_BELOW));
        e.sentence(32, "CAST: it is none");
        e.fails(Edge.CAST, y -> y.as(0, 1), y -> y.as(0, 2), y -> y.as(1, 2), y -> y.as(3, 1), y -> y.as(3, 2));
    }

    private void trace() {
        e.sentence(33, "TRACE");
        e.is(new AwakeTurns().trace(), 0);
        AwakeTurns x = Ships.dressed();
        int due = 2 * 31 + 1;
        e.is(x.trace(), due);
        x.greet(0);
        e.is(x.trace(), 31 * due + 4);
        x.ship(0, 0, 0, 13);
        e.is(x.trace(), 31 * due + 4);
        e.asks(y -> y.trace());
    }

    private void fault() {
        e.sentence(34, "The FAULT of the latest call that names one");
        AwakeTurns x = Ships.dressed();
        x.put(3, 0, 0);
        e.is(x.fault(), 1);
        x.as(0, 2);
        e.is(x.fault(), 2);
        x.cell(0, 17, 0);
        e.is(x.fault(), 3);
        x.sheet(3, 0, -1);
        e.is(x.fault(), 4);
        e.is(x.fault(), 4);
        e.sentence(34, "0: it came to none, or was refused");
        e.keepsAll(1, y -> y.put(0, 0, 97), y -> y.as(0, 0), y -> y.copy(0, 0, 0, 0, 1));
        e.keepsAll(-100, y -> y.ship(0, 0, 0, 0));
        e.keepsAll(97, y -> y.cell(0, 0, 0));
        e.keepsAll(AwakeTurns.NONE, y -> y.judge(2, 2, 0, 0));
        AwakeTurns[] taken = {Ships.dressed(), Ships.dressed()};
        for (AwakeTurns y : taken) {
            y.sheet(3, 0, -1);
            e.is(y == taken[0] ? y.sheet(3, 0, 0) : y.ship(0, 0, 0, 17) - 3, 1);
            e.is(y.fault(), 0);
        }
        e.declines(UNKNOWN, y -> y.ship(4, 0, 0, 0), y -> y.judge(4, 0, 0, 0), y -> y.sheet(4, 0, 0), y -> y.put(4, 0, 0),
            y -> y.copy(4, 0, 0, 0, 0), y -> y.as(4, 0));
        e.declines(OUTSIDE, y -> y.ship(0, 3, 0, 0), y -> y.judge(0, 3, 0, 0), y -> y.judge(2, 2, 0, 13), y -> y.judge(2, 2, 6, 1),
            y -> y.sheet(0, 3, 0), y -> y.sheet(0, 0, 61), y -> y.as(0, 3));
        e.declinesWithoutShip(AwakeTurns.STATE, y -> y.judge(2, 2, 0, 0));
        e.declines(LOST, y -> y.cell(4, 0, 0), y -> y.cell(0, 0, 3));
        e.sentence(34, "(0 ahead of any)");
        e.is(new AwakeTurns().fault(), 0);
        AwakeTurns none = new AwakeTurns();
        none.lose(0);
        none.tell(0);
        e.is(none.fault(), 0);
    }

    private void faultOfNoOtherCall() {
        // A call that names no faults leaves it, though it changes something else.
        e.sentence(34, "The FAULT of the latest call that names one");
        Edge.Call[] calls = {x -> x.up(3, 0, true), x -> x.wants(0, 1), x -> x.law(0), x -> x.note(0, 1), x -> x.tear(1),
            x -> x.reading(0, 0, true), x -> x.back(1), x -> x.lose(0), x -> x.tell(0), x -> x.greet(2)};
        for (Edge.Call call : calls) {
            AwakeTurns x = Ships.dressed();
            x.sheet(3, 0, -1);
            call.on(x);
            e.is(x.fault(), 4);
        }
        e.asks(x -> x.trace(), x -> x.many(0), x -> x.ofSleeper(0, 0), x -> x.awake(0), x -> x.harm(0, 0),
            x -> x.skills(0, 0), x -> x.lacks(0), x -> x.wrong(0), x -> x.cover(0), x -> x.least(-1), x -> x.trades(-1),
            x -> x.knows(0, 0, 0), x -> x.kept(0, 0), x -> x.began(0), x -> x.woken(0, 0, 0), x -> x.odds(0, 0));
    }

    private void many() {
        e.sentence(35, "How many: 0 SLEEPERS, 1 NOTES, 2 READINGS, 3 the LAW");
        AwakeTurns x = Ships.dressed();
        int[] due = {4, 3, 2, 1};
        for (int what = 0; what < 4; what++) {
            e.is(x.many(what), due[what]);
        }
        e.sentence(35, "(0 all without a SHIP)");
        AwakeTurns y = Ships.noShip();
        y.law(1);
        y.note(0, 1);
        y.reading(0, 0, true);
        for (int what = 0; what < 4; what++) {
            e.is(y.many(what), 0);
        }
        e.sentence(35, "OUTSIDE");
        e.refuses(OUTSIDE, z -> z.many(-1), z -> z.many(4), z -> z.many(FAR), z -> z.many(FAR_BELOW));
        e.refusesWithoutShip(OUTSIDE, z -> z.many(-1), z -> z.many(4));
    }
}
