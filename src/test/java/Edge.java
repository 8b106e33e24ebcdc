import java.util.List;
import java.util.function.Supplier;

/** What every test of an edge uses: the sentence that it stands for, and a look from all sides at a call that is refused. */
final class Edge {
    static final int FAR = Integer.MAX_VALUE, FAR_BELOW = Integer.MIN_VALUE;
    static final int NULL = 1, CAST = 2, INDEX = 3, SIZE = 4;
    static final int[] NO_MONTHS = {-1, 12, FAR, FAR_BELOW};
    /** Of the dressed ship, which has four; 32 and 36 would be 0 and 4 if a shift took them. */
    static final int[] NO_SLEEPERS = {-1, 4, 5, 6, 32, 36, FAR, FAR_BELOW};
    static final int[] NO_SHEETS = {-1, 4, 32, FAR, FAR_BELOW};
    static final int[] NO_LANES = {-1, 3, FAR, FAR_BELOW};
    private static final int STAYS = -1;

    interface Call {
        long on(AwakeTurns x);
    }

    private final Due due = new Due();
    private final Doc doc;
    private String heading = "";

    Edge(Doc doc) {
        this.doc = doc;
    }

    /** All that is asked from here on stands for these words of the document: of its Terms (part 0) or of a promise. */
    void sentence(int part, String words) {
        heading = (part == 0 ? "Terms" : "promise " + part) + " '" + words + "'";
        due.holds(heading + " stands once in the document", doc.name(part, words));
    }

    void is(long got, long want) {
        if (got == want) {
            due.is(heading, got, want);
        } else {
            due.is(heading + " " + line(), got, want);
        }
    }

    private static String line() {
        return StackWalker.getInstance().walk(frames -> frames
            .filter(f -> f.getClassName().startsWith("EdgesOf")).findFirst().map(Object::toString).orElse("?"));
    }

    /** Calls that name no faults: the fault of an earlier call stays. */
    void refuses(long answer, Call... calls) {
        changesNothing(Ships::dressed, answer, STAYS, calls);
    }

    void refusesWithoutShip(long answer, Call... calls) {
        changesNothing(Ships::noShip, answer, STAYS, calls);
    }

    void refusesWhenFull(long answer, Call... calls) {
        changesNothing(Ships::full, answer, STAYS, calls);
    }

    /** Calls that name faults, and are refused. */
    void declines(long answer, Call... calls) {
        changesNothing(Ships::dressed, answer, 0, calls);
    }

    void declinesWithoutShip(long answer, Call... calls) {
        changesNothing(Ships::noShip, answer, 0, calls);
    }

    /** Calls that name faults, come to none, and change nothing else: so too where nothing was to be changed. */
    void keepsAll(long answer, Call... calls) {
        changesNothing(Ships::dressed, answer, 0, calls);
    }

    /** Calls that name no faults and only ask. */
    void asks(Call... calls) {
        for (Call call : calls) {
            changesNothing(Ships::dressed, call.on(Ships.dressed()), STAYS, call);
        }
    }

    void fails(int fault, Call... calls) {
        changesNothing(Ships::dressed, -10 - fault, fault, calls);
    }

    void failsWithoutShip(int fault, Call... calls) {
        changesNothing(Ships::noShip, -10 - fault, fault, calls);
    }

    /** Of a call that answers a long. */
    void losesBy(int fault, Call... calls) {
        changesNothing(Ships::dressed, AwakeTurns.LOST, fault, calls);
    }

    /** Behind either of two faults, so that one that is left behind is never taken for the one that is due. */
    private void changesNothing(Supplier<AwakeTurns> maker, long answer, int faultThen, Call... calls) {
        List<Long> before = Ships.told(maker.get());
        for (Call call : calls) {
            AwakeTurns x = maker.get();
            x.sheet(3, 0, -1);
            is(call.on(x), answer);
            is(x.fault(), faultThen == STAYS ? SIZE : faultThen);
            is(Ships.told(x).equals(before) ? 1 : 0, 1);
            AwakeTurns y = maker.get();
            y.put(3, 0, 0);
            is(call.on(y), answer);
            is(y.fault(), faultThen == STAYS ? NULL : faultThen);
        }
    }

    /** Both numbers of the odds up to a month. */
    void odds(AwakeTurns x, int month, long upper, long lower) {
        is(x.odds(month, 0), upper);
        is(x.odds(month, 1), lower);
    }

    /** Least harm, and its turns; the months that are not told have nobody up. */
    void least(AwakeTurns x, int harm, int... sets) {
        is(x.least(-1), harm);
        for (int m = 0; m < 12; m++) {
            is(x.least(m), m < sets.length ? sets[m] : 0);
        }
    }

    void trades(AwakeTurns x, int... pairs) {
        is(x.trades(-1), pairs.length);
        for (int k = 0; k < pairs.length; k++) {
            is(x.trades(k), pairs[k]);
        }
        is(x.trades(pairs.length), AwakeTurns.NONE);
        is(x.trades(FAR), AwakeTurns.NONE);
    }

    void everyWordIsNamed() {
        for (String rest : doc.unnamed()) {
            due.holds("no test stands for " + rest, false);
        }
    }

    Due due() {
        return due;
    }
}
