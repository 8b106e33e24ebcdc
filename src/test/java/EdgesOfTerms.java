/** What the document says of all calls: refusals, faults, their order, sets and shares. */
final class EdgesOfTerms {
    private static final int UNKNOWN = AwakeTurns.UNKNOWN, OUTSIDE = AwakeTurns.OUTSIDE, STATE = AwakeTurns.STATE;
    private static final int FAR = Edge.FAR, FAR_BELOW = Edge.FAR_BELOW;
    private static final long LOST = AwakeTurns.LOST;
    private static final String ORDER = "of several the first in the order in which a call's line tells them";
    private final Edge e;

    EdgesOfTerms(Edge e) {
        this.e = e;
    }

    void run() {
        refusals();
        orderOfTheShip();
        orderOfMonths();
        orderOfNews();
        orderOfSheets();
        refusalsChangeNothing();
        faultNull();
        faultCast();
        faultIndex();
        faultIndexOfNoCells();
        faultIndexThatWouldWrap();
        faultSize();
        orderOfFaults();
        answersOfFaults();
        none();
        setsAsBits();
        sharesInLeastTerms();
    }

    private void refusals() {
        e.sentence(0, "REFUSALS: UNKNOWN (there is no such SLEEPER, SHEET, place)");
        e.is(UNKNOWN, -1);
        e.refuses(-1, x -> x.tell(4), x -> x.lose(4), x -> x.trades(-2));
        e.sentence(0, "OUTSIDE (another number is not as told)");
        e.is(OUTSIDE, -2);
        e.refuses(-2, x -> x.awake(12), x -> x.law(2), x -> x.many(4));
        e.sentence(0, "STATE (as told)");
        e.is(STATE, -3);
        e.refusesWithoutShip(-3, x -> x.awake(0), x -> x.law(0), x -> x.trades(0));
        e.sentence(0, "FULL;");
        e.is(AwakeTurns.FULL, -4);
        e.refusesWhenFull(-4, x -> x.note(0, 1), x -> x.reading(0, 0, true));
    }

    private void orderOfTheShip() {
        e.sentence(0, ORDER);
        e.declines(UNKNOWN, x -> x.ship(4, 3, -1, -1));
        e.declines(OUTSIDE, x -> x.ship(3, 3, -1, -1), x -> x.ship(1, 3, -1, -1));
        e.refuses(UNKNOWN, x -> x.ofSleeper(4, 4), x -> x.up(4, 12, true));
        e.refusesWithoutShip(UNKNOWN, x -> x.ofSleeper(0, 4), x -> x.up(0, 12, true));
        e.refusesWithoutShip(OUTSIDE, x -> x.wants(12, 0), x -> x.wants(0, 8), x -> x.law(2));
        e.refusesWhenFull(UNKNOWN, x -> x.note(4, 0), x -> x.note(0, 4), x -> x.note(2, 2));
    }

    private void orderOfMonths() {
        e.sentence(0, ORDER);
        e.refusesWithoutShip(OUTSIDE, x -> x.awake(12), x -> x.lacks(12), x -> x.wrong(3), x -> x.cover(12),
            x -> x.least(12), x -> x.least(-2));
        e.refuses(UNKNOWN, x -> x.harm(4, 12), x -> x.skills(4, 12));
        e.refusesWithoutShip(UNKNOWN, x -> x.harm(0, 12), x -> x.skills(0, 12), x -> x.trades(-2));
        e.declinesWithoutShip(UNKNOWN, x -> x.judge(4, 3, -1, -1));
        e.declinesWithoutShip(OUTSIDE, x -> x.judge(3, 3, -1, -1), x -> x.judge(2, 3, 0, 13));
        e.declinesWithoutShip(STATE, x -> x.judge(0, 1, 0, 1), x -> x.judge(3, 1, 0, 1), x -> x.judge(2, 2, 0, -1),
            x -> x.judge(2, 2, -1, 1), x -> x.judge(2, 2, 0, 13), x -> x.judge(2, 2, 7, 1));
        e.fails(Edge.INDEX, x -> x.judge(2, 2, 2, 13), x -> x.judge(2, 2, 6, 9));
    }

    private void orderOfNews() {
        e.sentence(0, ORDER);
        e.refuses(UNKNOWN, x -> x.knows(4, 12, 0), x -> x.knows(0, 12, 4), x -> x.kept(4, 12), x -> x.reading(4, 12, true),
            x -> x.woken(4, 12, 0), x -> x.woken(4, 0, 12));
        e.refusesWithoutShip(UNKNOWN, x -> x.knows(0, 12, 0), x -> x.kept(0, 12), x -> x.reading(0, 12, true),
            x -> x.woken(0, 12, 12));
        e.refusesWithoutShip(OUTSIDE, x -> x.began(12));
        e.refusesWhenFull(UNKNOWN, x -> x.reading(4, 12, true));
        e.refusesWhenFull(OUTSIDE, x -> x.reading(0, 12, true));
    }

    private void orderOfSheets() {
        e.sentence(0, ORDER);
        e.declines(UNKNOWN, x -> x.sheet(4, 3, -1), x -> x.sheet(4, 0, 61), x -> x.copy(3, -1, 4, 0, -1),
            x -> x.copy(4, -1, 3, 0, -1), x -> x.as(4, 3));
        e.declines(OUTSIDE, x -> x.sheet(3, 3, -1));
        e.declines(LOST, x -> x.cell(3, -1, 3), x -> x.cell(0, -1, 3));
        e.declinesWithoutShip(UNKNOWN, x -> x.as(0, 3));
    }

    private void refusalsChangeNothing() {
        // Every refusal of these tests is looked at so; here is one of each kind of call.
        e.sentence(0, "They change nothing (but fault(), of a call that names FAULTS)");
        e.refuses(OUTSIDE, x -> x.up(1, 12, true), x -> x.wants(12, 5), x -> x.tear(4), x -> x.back(3));
        e.declines(OUTSIDE, x -> x.sheet(2, 0, 61), x -> x.ship(0, 3, 0, 17), x -> x.as(0, 3));
        e.declines(UNKNOWN, x -> x.put(4, 0, 9), x -> x.copy(2, 0, 4, 0, 1), x -> x.copy(4, 0, 2, 0, 1));
        e.declines(LOST, x -> x.cell(4, 0, 0));
    }

    private void faultNull() {
        e.sentence(0, "FAULTS are the machine's: 1 NULL (there is nothing)");
        for (int lane = 0; lane < 3; lane++) {
            int of = lane;
            e.fails(1, x -> x.ship(3, of, 0, 0), x -> x.judge(3, of, 0, 0));
            e.losesBy(1, x -> x.cell(3, 0, of));
        }
        e.fails(1, x -> x.put(3, 0, 0), x -> x.copy(3, 0, 0, 0, 0), x -> x.copy(0, 0, 3, 0, 0), x -> x.copy(3, 0, 3, 0, 0));
    }

    private void faultCast() {
        e.sentence(0, "2 CAST (it is of another LANE, kind)");
        for (int has = 0; has < 3; has++) {
            for (int lane = 0; lane < 3; lane++) {
                int k = has;
                int of = lane;
                if (has != lane) {
                    e.fails(2, x -> x.ship(k, of, 0, 0), x -> x.judge(k, of, 0, 0), x -> x.copy(k, 0, of, 0, 0));
                    e.losesBy(2, x -> x.cell(k, 0, of));
                }
            }
        }
        e.fails(2, x -> x.as(0, 1), x -> x.as(0, 2), x -> x.as(1, 2), x -> x.as(3, 1), x -> x.as(3, 2));
    }

    private void faultIndex() {
        e.sentence(0, "3 INDEX (of cells from i on");
        e.fails(3, x -> x.ship(0, 0, 0, 18), x -> x.ship(0, 0, 1, 17), x -> x.ship(0, 0, 17, 1), x -> x.ship(0, 0, -1, 1));
        e.fails(3, x -> x.judge(2, 2, 0, 15), x -> x.judge(2, 2, 13, 2), x -> x.judge(2, 2, 14, 1), x -> x.judge(2, 2, -1, 2));
        e.fails(3, x -> x.put(1, -1, 0), x -> x.put(1, 3, 0), x -> x.put(1, FAR, 0), x -> x.put(1, FAR_BELOW, 0));
        e.losesBy(3, x -> x.cell(1, -1, 1), x -> x.cell(1, 3, 1), x -> x.cell(1, FAR, 1), x -> x.cell(1, FAR_BELOW, 1));
        e.fails(3, x -> x.copy(2, 0, 2, 0, 15), x -> x.copy(2, 1, 2, 0, 14), x -> x.copy(2, 0, 2, 1, 14));
    }

    private void faultIndexOfNoCells() {
        e.sentence(0, "also where i is not 0 .. how many there are, if none of them is taken, too)");
        e.fails(3, x -> x.ship(0, 0, -1, 0), x -> x.ship(0, 0, 18, 0), x -> x.ship(0, 0, FAR, 0), x -> x.ship(0, 0, FAR_BELOW, 0));
        e.fails(3, x -> x.judge(2, 2, -1, 0), x -> x.judge(2, 2, 15, 0), x -> x.judge(2, 2, FAR, 0), x -> x.judge(2, 2, FAR_BELOW, 0));
        e.fails(3, x -> x.copy(2, -1, 2, 0, 0), x -> x.copy(2, 15, 2, 0, 0), x -> x.copy(2, 0, 2, -1, 0), x -> x.copy(2, 0, 2, 15, 0));
        e.keepsAll(-100, x -> x.ship(0, 0, 0, 0), x -> x.ship(0, 0, 17, 0), x -> x.ship(1, 1, 3, 0));
        e.keepsAll(AwakeTurns.NONE, x -> x.judge(2, 2, 0, 0), x -> x.judge(2, 2, 14, 0));
        e.keepsAll(0, x -> x.copy(2, 14, 2, 14, 0), x -> x.copy(0, 17, 0, 0, 0), x -> x.copy(1, 0, 1, 3, 0));
        AwakeTurns empty = Ships.of("a;s11;s11");
        empty.sheet(0, 0, 0);
        e.is(empty.ship(0, 0, 0, 0), -100);
        e.is(empty.judge(0, 0, 0, 0), AwakeTurns.NONE);
        e.is(empty.copy(0, 0, 0, 0, 0), 0);
        e.is(empty.ship(0, 0, 1, 0), -13);
        e.is(empty.judge(0, 0, 1, 0), -13);
        e.is(empty.copy(0, 1, 0, 0, 0), -13);
        e.is(empty.put(0, 0, 0), -13);
    }

    private void faultIndexThatWouldWrap() {
        // Where i and n together would wrap around to a small number.
        e.sentence(0, "3 INDEX (of cells from i on");
        int[][] wraps = {{1, FAR}, {FAR, 1}, {FAR, FAR}, {17, FAR}, {FAR_BELOW, FAR}, {FAR, 2}};
        for (int[] w : wraps) {
            e.fails(3, x -> x.ship(0, 0, w[0], w[1]), x -> x.judge(2, 2, w[0], w[1]), x -> x.copy(0, w[0], 0, 0, w[1]),
                x -> x.copy(0, 0, 0, w[0], w[1]));
        }
    }

    private void faultSize() {
        e.sentence(0, "4 SIZE (a length below 0)");
        e.fails(4, x -> x.ship(0, 0, 0, -1), x -> x.ship(0, 0, 0, FAR_BELOW), x -> x.judge(2, 2, 0, -1),
            x -> x.judge(2, 2, 0, FAR_BELOW), x -> x.sheet(2, 2, -1), x -> x.sheet(2, 2, FAR_BELOW));
        AwakeTurns x = new AwakeTurns();
        e.is(x.sheet(0, 0, 0), 1);
        e.is(x.fault(), 0);
    }

    private void orderOfFaults() {
        e.sentence(0, "Of a call the first that is come to, in the order told");
        e.fails(Edge.CAST, x -> x.ship(0, 1, -1, -1), x -> x.ship(0, 1, -1, 1), x -> x.judge(2, 1, -1, -1), x -> x.judge(2, 1, 15, 0));
        e.fails(Edge.NULL, x -> x.ship(3, 1, -1, -1), x -> x.judge(3, 1, -1, -1), x -> x.ship(3, 1, -1, 1));
        e.fails(Edge.SIZE, x -> x.ship(0, 0, -1, -1), x -> x.ship(0, 0, 18, -1), x -> x.judge(2, 2, -1, -1), x -> x.judge(2, 2, 15, -1));
        e.losesBy(Edge.CAST, x -> x.cell(0, -1, 1), x -> x.cell(0, 17, 2));
        e.losesBy(Edge.NULL, x -> x.cell(3, -1, 1));
        e.fails(Edge.NULL, x -> x.put(3, -1, 0), x -> x.copy(3, -1, 0, -1, -1), x -> x.copy(0, -1, 3, -1, -1));
        e.fails(Edge.CAST, x -> x.copy(0, -1, 1, 0, 1), x -> x.copy(0, 0, 1, -1, 1), x -> x.copy(0, 0, 1, 0, -1));
    }

    private void answersOfFaults() {
        e.sentence(0, "it answers -10 less it (LOST, where a long is answered, as for refusals) and changes nothing; fault() tells it");
        AwakeTurns x = Ships.dressed();
        e.is(x.ship(3, 0, 0, 1), -11);
        e.is(x.fault(), 1);
        e.is(x.ship(0, 1, 0, 1), -12);
        e.is(x.fault(), 2);
        e.is(x.ship(0, 0, 17, 1), -13);
        e.is(x.fault(), 3);
        e.is(x.ship(0, 0, 0, -1), -14);
        e.is(x.fault(), 4);
        e.is(LOST, Long.MIN_VALUE);
        e.losesBy(1, y -> y.cell(3, 0, 0));
        e.losesBy(2, y -> y.cell(0, 0, 1));
        e.losesBy(3, y -> y.cell(0, 17, 0));
        e.declines(LOST, y -> y.cell(4, 0, 0), y -> y.cell(0, 0, 3));
        e.refuses(LOST, y -> y.odds(12, 0), y -> y.odds(0, 2));
    }

    private void none() {
        e.sentence(0, "NONE is -9");
        e.is(AwakeTurns.NONE, -9);
        AwakeTurns x = Ships.of("a;s09;s09");
        e.is(x.wrong(0), -9);
        e.is(x.wrong(1), -9);
        e.is(x.wrong(2), -9);
        e.is(x.knows(0, 0, 1), -9);
        e.is(x.trades(1), -9);
        e.is(x.judge(3, 0, 9, 1), -9);
        x.wants(0, 1);
        e.is(x.cover(0), -9);
        e.is(x.least(-1), -9);
        e.is(x.least(0), -9);
    }

    private void setsAsBits() {
        e.sentence(0, "Sets are told as bits (bit k for number k)");
        AwakeTurns x = Ships.of("a;s09;s09;s09;s09;s09;s09");
        for (int s = 0; s < 6; s++) {
            x.up(s, s, true);
            e.is(x.awake(s), 1 << s);
            e.is(x.kept(s, 0), 63 - (1 << s));
            x.reading(s, 0, true);
            e.is(x.began(0), 1 << s);
            x.back(1);
        }
        for (int s = 0; s < 6; s++) {
            x.up(s, 11, true);
        }
        e.is(x.awake(11), 63);
        AwakeTurns y = Ships.of("a;s19;s29;s49");
        y.wants(0, 5);
        e.is(y.lacks(0), 5);
        e.is(y.cover(0), 5);
        e.is(y.least(0), 5);
        e.is(y.ofSleeper(2, 1), 4);
        e.is(y.skills(2, 0), 4);
    }

    private void sharesInLeastTerms() {
        e.sentence(0, "Shares are told as upper and lower number (above 0) in least terms");
        AwakeTurns x = Ships.of("a;s19;s19;s19;s19;s19;s19");
        e.odds(x, 11, 1, 1);
        x.wants(0, 1);
        e.odds(x, 11, 0, 1);
        int[][] shares = {{1, 2}, {3, 4}, {7, 8}, {15, 16}, {31, 32}, {63, 64}};
        for (int s = 0; s < 6; s++) {
            x.up(s, 0, true);
            e.odds(x, 11, shares[s][0], shares[s][1]);
        }
    }
}
