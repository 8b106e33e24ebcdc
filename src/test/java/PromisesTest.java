/** Promise by promise: ordinary inputs, the edges that the document names, and wrong inputs. */
public final class PromisesTest {
    private static final int FAR = Integer.MAX_VALUE, FAR_BELOW = Integer.MIN_VALUE;
    private static final Due due = new Due();

    private PromisesTest() {
    }

    public static void main(String[] args) {
        newObject();
        shipTaken();
        shipFirstFault();
        shipRefused();
        ofSleeper();
        up();
        wants();
        law();
        note();
        tear();
        awake();
        harm();
        skills();
        lacks();
        wrong();
        cover();
        least();
        judge();
        judgeRefused();
        trades();
        knows();
        knowsByNotes();
        kept();
        reading();
        back();
        began();
        woken();
        odds();
        sheet();
        lose();
        put();
        cell();
        copy();
        tell();
        greet();
        as();
        trace();
        fault();
        many();
        sixSleepers();
        due.end();
    }

    private static void is(String call, long got, long want) {
        due.is(call, got, want);
    }

    // 1

    private static void newObject() {
        AwakeTurns x = new AwakeTurns();
        for (int what = 0; what < 4; what++) {
            is("1 many", x.many(what), 0);
        }
        is("1 trace", x.trace(), 0);
        is("1 fault", x.fault(), 0);
        is("1 sleeper", x.ofSleeper(0, 0), AwakeTurns.UNKNOWN);
        for (int k = 0; k < 4; k++) {
            is("1 sheet has nothing", x.put(k, 0, 1), -11);
            is("1 lose", x.lose(k), 0);
        }
        is("1 LOST", AwakeTurns.LOST, Long.MIN_VALUE);
        is("1 NONE", AwakeTurns.NONE, -9);
    }

    // 2

    private static void shipTaken() {
        for (int lane = 0; lane < 3; lane++) {
            AwakeTurns x = new AwakeTurns();
            Ships.write(x, lane, lane, 3, "a;s01;f79");
            is("2 two sleepers", x.ship(lane, lane, 3, 9), 2);
            is("2 fault", x.fault(), 0);
            Ships.write(x, lane, lane, 35, "a;s01;f79;o11;s11;s11;o55");
            is("2 six sleepers, up to the end of the row", x.ship(lane, lane, 35, 25), 6);
            is("2 the last one's kind", x.ofSleeper(5, 0), 2);
        }
        AwakeTurns x = Ships.of("a;s15;s25");
        x.up(0, 3, true);
        x.wants(3, 5);
        x.law(1);
        x.note(0, 1);
        x.reading(0, 0, true);
        x.tell(0);
        is("2 a text not taken changes nothing", Ships.board(x, "a;s15;s2"), -108);
        is("2 up stays", x.awake(3), 1);
        is("2 notes stay", x.many(1), 1);
        is("2 readings stay", x.many(2), 1);
        is("2 the law stays", x.many(3), 1);
        is("2 wants stay", x.wants(3, 5), 5);
        is("2 a new ship", Ships.board(x, "a;s15;s25;s35"), 3);
        is("2 nobody is up", x.awake(3), 0);
        is("2 no month wants anything", x.wants(3, 0), 0);
        is("2 no notes", x.many(1), 0);
        is("2 no readings", x.many(2), 0);
        is("2 the law is 0", x.many(3), 0);
        is("2 the trace stays", x.trace(), 1);
        is("2 the sheet stays", x.cell(3, 0, 0), 'a');
    }

    private static void firstFault(String text, int place) {
        is("2 first fault of '" + text + "'", Ships.board(new AwakeTurns(), text), -100 - place);
    }

    private static void shipFirstFault() {
        firstFault("", 0);
        firstFault("a", 1);
        firstFault("b", 0);
        firstFault(";", 0);
        firstFault("A;s11;s11", 0);
        firstFault("aa", 1);
        firstFault("a;", 2);
        firstFault("a;a", 2);
        firstFault("a;s8", 3);
        firstFault("a;s/", 3);
        firstFault("a;s70", 4);
        firstFault("a;s7:", 4);
        firstFault("a;s11", 5);
        firstFault("a;s11s", 5);
        firstFault("a;s11;s1", 8);
        firstFault("a;s11;s11a", 9);
        firstFault("a;s11;s11;", 10);
        firstFault("a;s11;s11;s11;s11;s11;s11;", 25);
        firstFault("a;s11;s11;s11;s11;s11;s11;s11", 25);
        firstFault("a;s11;s11;s11;s11;s11;s1", 24);
        firstFault("a;s11;s11;s11;s11;s11;s1x;s11", 24);
        AwakeTurns x = new AwakeTurns();
        Ships.row(x, 0, 1, 97 + 256, 97 - 256);
        is("2 a short is not cut to a byte", x.ship(0, 1, 0, 1), -100);
        is("2 a code below 0", x.ship(0, 1, 1, 1), -100);
        is("2 a first fault is no fault of the machine", x.fault(), 0);
    }

    private static void shipRefused() {
        AwakeTurns x = new AwakeTurns();
        Ships.write(x, 1, 1, 0, "a;s11;s11");
        is("2 no such sheet", x.ship(-1, 9, 0, 9), AwakeTurns.UNKNOWN);
        is("2 no such sheet", x.ship(4, 0, 0, 9), AwakeTurns.UNKNOWN);
        is("2 no such lane", x.ship(0, 3, 0, -1), AwakeTurns.OUTSIDE);
        is("2 no such lane", x.ship(1, -1, 0, 9), AwakeTurns.OUTSIDE);
        is("2 cast ahead of size", x.ship(1, 0, 0, -1), -12);
        is("2 null ahead of size", x.ship(0, 0, 0, -1), -11);
        is("2 nothing is no cast", x.ship(0, 2, 0, 1), -11);
        is("2 size ahead of index", x.ship(1, 1, -1, -1), -14);
        is("2 size", x.ship(1, 1, 0, FAR_BELOW), -14);
        is("2 index", x.ship(1, 1, -1, 0), -13);
        is("2 index", x.ship(1, 1, 61, 0), -13);
        is("2 index", x.ship(1, 1, 52, 9), -13);
        is("2 index that would wrap", x.ship(1, 1, 1, FAR), -13);
        is("2 index that would wrap", x.ship(1, 1, FAR, FAR), -13);
        is("2 index that would wrap", x.ship(1, 1, FAR_BELOW, FAR), -13);
        is("2 nothing taken at the end", x.ship(1, 1, 60, 0), -100);
        is("2 no ship by all these", x.many(0), 0);
    }

    // 3 to 8

    private static void ofSleeper() {
        AwakeTurns x = Ships.of("a;s01;f72;o59");
        int[][] all = {{0, 0, 1, 1}, {1, 7, 2, 2}, {2, 5, 9, 4}};
        for (int s = 0; s < 3; s++) {
            for (int what = 0; what < 4; what++) {
                is("3 ofSleeper(" + s + ", " + what + ")", x.ofSleeper(s, what), all[s][what]);
            }
        }
        is("3 what below", x.ofSleeper(0, -1), AwakeTurns.OUTSIDE);
        is("3 what above", x.ofSleeper(0, 4), AwakeTurns.OUTSIDE);
        is("3 no such one", x.ofSleeper(3, 9), AwakeTurns.UNKNOWN);
        is("3 no such one", x.ofSleeper(-1, 0), AwakeTurns.UNKNOWN);
        is("3 no such one", x.ofSleeper(FAR, 0), AwakeTurns.UNKNOWN);
    }

    private static void up() {
        AwakeTurns x = Ships.of("a;s01;f72");
        is("4 becomes up", x.up(1, 11, true), 1);
        is("4 was so", x.up(1, 11, true), 0);
        is("4 awake", x.awake(11), 2);
        is("4 no longer", x.up(1, 11, false), 1);
        is("4 was so", x.up(1, 11, false), 0);
        is("4 awake", x.awake(11), 0);
        is("4 unknown ahead of outside", x.up(2, 12, true), AwakeTurns.UNKNOWN);
        is("4 unknown", x.up(-1, 0, true), AwakeTurns.UNKNOWN);
        is("4 outside", x.up(0, 12, true), AwakeTurns.OUTSIDE);
        is("4 outside", x.up(0, -1, true), AwakeTurns.OUTSIDE);
        is("4 no ship", new AwakeTurns().up(0, 0, true), AwakeTurns.UNKNOWN);
    }

    private static void wants() {
        AwakeTurns x = Ships.of("a;s01;f72");
        is("5 was", x.wants(0, 7), 0);
        is("5 was", x.wants(0, 2), 7);
        is("5 another month", x.wants(11, 1), 0);
        is("5 was", x.wants(0, 0), 2);
        is("5 outside", x.wants(12, 0), AwakeTurns.OUTSIDE);
        is("5 outside", x.wants(-1, 0), AwakeTurns.OUTSIDE);
        is("5 outside", x.wants(0, 8), AwakeTurns.OUTSIDE);
        is("5 outside", x.wants(0, -1), AwakeTurns.OUTSIDE);
        is("5 as it was", x.wants(0, 0), 0);
        is("5 state", new AwakeTurns().wants(0, 0), AwakeTurns.STATE);
        is("5 outside ahead of state", new AwakeTurns().wants(0, 8), AwakeTurns.OUTSIDE);
    }

    private static void law() {
        AwakeTurns x = Ships.of("a;s01;f72");
        is("6 was", x.law(1), 0);
        is("6 was", x.law(1), 1);
        is("6 was", x.law(0), 1);
        is("6 outside", x.law(2), AwakeTurns.OUTSIDE);
        is("6 outside", x.law(-1), AwakeTurns.OUTSIDE);
        is("6 as it was", x.many(3), 0);
        is("6 state", new AwakeTurns().law(1), AwakeTurns.STATE);
        is("6 outside ahead of state", new AwakeTurns().law(2), AwakeTurns.OUTSIDE);
    }

    private static void note() {
        AwakeTurns x = Ships.of("a;s01;f72");
        is("7 to itself", x.note(1, 1), AwakeTurns.UNKNOWN);
        is("7 from nobody", x.note(2, 0), AwakeTurns.UNKNOWN);
        is("7 to nobody", x.note(0, 2), AwakeTurns.UNKNOWN);
        is("7 from nobody", x.note(-1, 0), AwakeTurns.UNKNOWN);
        is("7 to nobody", x.note(0, -1), AwakeTurns.UNKNOWN);
        for (int k = 0; k < 8; k++) {
            is("7 its number", x.note(k % 2, 1 - k % 2), k);
        }
        is("7 full", x.note(0, 1), AwakeTurns.FULL);
        is("7 unknown ahead of full", x.note(0, 0), AwakeTurns.UNKNOWN);
        is("7 eight", x.many(1), 8);
    }

    private static void tear() {
        AwakeTurns x = Ships.of("a;s01;f72;s11");
        x.note(0, 1);
        x.note(1, 2);
        x.note(2, 0);
        is("8 none torn", x.tear(0), 3);
        is("8 outside", x.tear(-1), AwakeTurns.OUTSIDE);
        is("8 outside", x.tear(4), AwakeTurns.OUTSIDE);
        is("8 the last two", x.tear(2), 1);
        Ships.turns(x, 1, 2, 4);
        is("8 the first is left", x.knows(0, 0, 1), 1);
        is("8 the second is torn", x.knows(0, 0, 2), AwakeTurns.NONE);
        is("8 a new number", x.note(1, 2), 1);
        is("8 all", x.tear(2), 0);
        is("8 no ship", new AwakeTurns().tear(0), 0);
        is("8 no ship", new AwakeTurns().tear(1), AwakeTurns.OUTSIDE);
    }

    // 9 to 17

    private static void awake() {
        AwakeTurns x = Ships.of("a;s01;f72;s11;s11;s11;s11");
        Ships.turns(x, 63, 0, 33);
        is("9 all", x.awake(0), 63);
        is("9 none", x.awake(1), 0);
        is("9 two", x.awake(2), 33);
        is("9 outside", x.awake(-1), AwakeTurns.OUTSIDE);
        is("9 outside", x.awake(12), AwakeTurns.OUTSIDE);
        is("9 state", new AwakeTurns().awake(11), AwakeTurns.STATE);
        is("9 outside ahead of state", new AwakeTurns().awake(12), AwakeTurns.OUTSIDE);
    }

    private static void harm() {
        AwakeTurns x = Ships.of("a;s01;f72;o11");
        Ships.turns(x, 7, 7, 0, 7, 0, 0, 7, 7, 7, 0, 0, 7);
        int[] times = {1, 1, 1, 2, 2, 2, 3, 3, 3, 3, 3, 4};
        for (int m = 0; m < 12; m++) {
            is("10 sleeper in month " + m, x.harm(0, m), times[m]);
            is("10 frail in month " + m, x.harm(1, m), 2 * times[m]);
            is("10 old in month " + m, x.harm(2, m), 4 * times[m]);
        }
        is("10 unknown ahead of outside", x.harm(3, 12), AwakeTurns.UNKNOWN);
        is("10 unknown", x.harm(-1, 0), AwakeTurns.UNKNOWN);
        is("10 outside", x.harm(0, 12), AwakeTurns.OUTSIDE);
        is("10 outside", x.harm(0, -1), AwakeTurns.OUTSIDE);
    }

    private static void skills() {
        AwakeTurns x = Ships.of("a;s11;f21;o41;s01");
        Ships.turns(x, 3, 4, 6, 9);
        is("11 by the text", x.skills(1, 11), 2);
        x.law(1);
        is("11 not yet in that month", x.skills(0, 0), 1);
        is("11 from the next on", x.skills(0, 1), 3);
        is("11 the other too", x.skills(1, 1), 3);
        is("11 alone learns nothing", x.skills(2, 2), 4);
        is("11 what was learnt is taught on", x.skills(2, 3), 7);
        is("11 the teacher learns too", x.skills(1, 3), 7);
        is("11 none as it was not up", x.skills(0, 3), 3);
        is("11 who had none", x.skills(3, 3), 0);
        is("11 who had none", x.skills(3, 4), 3);
        is("11 it stays", x.skills(3, 11), 3);
        is("11 unknown ahead of outside", x.skills(4, 12), AwakeTurns.UNKNOWN);
        is("11 unknown", x.skills(-1, 0), AwakeTurns.UNKNOWN);
        is("11 outside", x.skills(0, 12), AwakeTurns.OUTSIDE);
        is("11 outside", x.skills(0, -1), AwakeTurns.OUTSIDE);
    }

    private static void lacks() {
        AwakeTurns x = Ships.of("a;s11;f21;o41");
        Ships.turns(x, 3, 1, 0, 5);
        for (int m = 0; m < 4; m++) {
            x.wants(m, 6);
        }
        is("12 lacks", x.lacks(0), 4);
        is("12 lacks", x.lacks(1), 6);
        is("12 nobody up", x.lacks(2), 6);
        is("12 lacks", x.lacks(3), 2);
        is("12 wants nothing", x.lacks(4), 0);
        x.law(1);
        is("12 by the law: not yet", x.lacks(0), 4);
        is("12 by the law", x.lacks(1), 4);
        is("12 by the law", x.lacks(3), 0);
        is("12 outside", x.lacks(12), AwakeTurns.OUTSIDE);
        is("12 outside", x.lacks(-1), AwakeTurns.OUTSIDE);
        is("12 state", new AwakeTurns().lacks(0), AwakeTurns.STATE);
        is("12 outside ahead of state", new AwakeTurns().lacks(12), AwakeTurns.OUTSIDE);
    }

    private static void wrong() {
        AwakeTurns x = Ships.of("a;s11;f22;f42");
        for (int what = 0; what < 3; what++) {
            is("13 nothing is wrong", x.wrong(what), AwakeTurns.NONE);
        }
        Ships.turns(x, 7, 0, 0, 6, 0, 1);
        is("13 spent", x.wrong(1), 3);
        is("13 the least number of several", x.wrong(2), 1);
        Ships.turns(x, 7, 0, 0, 4, 0, 1);
        is("13 spent", x.wrong(1), 3);
        is("13 the first, though a lesser one is spent later", x.wrong(2), 2);
        x.wants(4, 1);
        x.wants(11, 1);
        is("13 lack", x.wrong(0), 4);
        Ships.turns(x, 6, 0);
        is("13 as much as one bears", x.wrong(1), AwakeTurns.NONE);
        is("13 as much as one bears", x.wrong(2), AwakeTurns.NONE);
        Ships.turns(x, 2, 0, 0, 0, 0, 0, 0, 0, 0, 0, 0, 2);
        is("13 in the last month", x.wrong(1), 11);
        x.wants(4, 0);
        is("13 in the last month", x.wrong(0), 11);
        x.law(1);
        Ships.turns(x, 3, 0, 0, 0, 0, 0, 0, 0, 0, 0, 0, 2);
        is("13 by the law", x.wrong(0), AwakeTurns.NONE);
        is("13 outside", x.wrong(3), AwakeTurns.OUTSIDE);
        is("13 outside", x.wrong(-1), AwakeTurns.OUTSIDE);
        is("13 state", new AwakeTurns().wrong(2), AwakeTurns.STATE);
        is("13 outside ahead of state", new AwakeTurns().wrong(3), AwakeTurns.OUTSIDE);
    }

    private static void cover() {
        AwakeTurns x = Ships.of("a;s11;f21;o31;s31");
        is("14 wants nothing", x.cover(0), 0);
        x.wants(0, 1);
        is("14 the least of several", x.cover(0), 1);
        x.wants(0, 3);
        is("14 one rather than two", x.cover(0), 4);
        x.wants(0, 4);
        is("14 not even all", x.cover(0), AwakeTurns.NONE);
        x.law(1);
        Ships.turns(x, 15, 15);
        is("14 by the text alone", x.cover(0), AwakeTurns.NONE);
        AwakeTurns y = Ships.of("a;s11;s21;s41;s31;s51");
        y.wants(11, 7);
        is("14 the least pair", y.cover(11), 12);
        is("14 outside", y.cover(12), AwakeTurns.OUTSIDE);
        is("14 outside", y.cover(-1), AwakeTurns.OUTSIDE);
        is("14 state", new AwakeTurns().cover(0), AwakeTurns.STATE);
        is("14 outside ahead of state", new AwakeTurns().cover(12), AwakeTurns.OUTSIDE);
    }

    private static void leastRow(AwakeTurns x, int harm, int... sets) {
        is("15 least harm", x.least(-1), harm);
        for (int m = 0; m < 12; m++) {
            is("15 month " + m, x.least(m), m < sets.length ? sets[m] : 0);
        }
    }

    private static void leastUnmet(int month) {
        AwakeTurns x = Ships.of("a;s11;s31");
        x.wants(month, 4);
        is("15 none, by month " + month, x.least(-1), AwakeTurns.NONE);
        is("15 none, by month " + month, x.least(5), AwakeTurns.NONE);
    }

    private static void least() {
        AwakeTurns x = Ships.of("a;o19;f29;s31");
        leastRow(x, 0);
        x.wants(3, 1);
        leastRow(x, 1, 0, 0, 0, 4);
        x.wants(7, 2);
        leastRow(x, 1, 0, 0, 0, 4, 4, 4, 4, 4);
        x.up(0, 5, true);
        leastRow(x, 1, 0, 0, 0, 4, 4, 4, 4, 4);
        x.wants(9, 4);
        leastRow(x, AwakeTurns.NONE, -9, -9, -9, -9, -9, -9, -9, -9, -9, -9, -9, -9);
        AwakeTurns y = Ships.of("a;f11;o21;f11;s21");
        y.wants(0, 2);
        y.wants(1, 1);
        y.wants(11, 2);
        leastRow(y, 3, 8, 9, 8, 8, 8, 8, 8, 8, 8, 8, 8, 8);
        y.wants(11, 0);
        leastRow(y, 3, 8, 1);
        AwakeTurns z = Ships.of("a;s11;s11");
        z.wants(0, 1);
        z.wants(11, 1);
        leastRow(z, 1, 1, 1, 1, 1, 1, 1, 1, 1, 1, 1, 1, 1);
        leastUnmet(0);
        leastUnmet(11);
        AwakeTurns u = Ships.of("a;s11;o11");
        u.wants(0, 1);
        leastRow(u, 1, 1);
        u.wants(11, 1);
        leastRow(u, 1, 1, 1, 1, 1, 1, 1, 1, 1, 1, 1, 1, 1);
        AwakeTurns v = Ships.of("a;s11;s21");
        v.wants(0, 1);
        v.wants(5, 2);
        leastRow(v, 2, 1, 0, 0, 0, 0, 2);
        is("15 outside", z.least(12), AwakeTurns.OUTSIDE);
        is("15 outside", z.least(-2), AwakeTurns.OUTSIDE);
        is("15 state", new AwakeTurns().least(-1), AwakeTurns.STATE);
        is("15 outside ahead of state", new AwakeTurns().least(12), AwakeTurns.OUTSIDE);
    }

    private static void judge() {
        AwakeTurns x = Ships.of("a;s11;f23;o48");
        x.wants(1, 3);
        x.wants(4, 1);
        Ships.row(x, 0, 0, 2, 3, 2, 0, 1, 0, 0);
        is("16 the second thaw is one too many", x.judge(0, 0, 0, 7), 4);
        is("16 up to it", x.judge(0, 0, 0, 4), AwakeTurns.NONE);
        is("16 of no month", x.judge(0, 0, 7, 0), AwakeTurns.NONE);
        is("16 from the second cell on", x.judge(0, 0, 1, 2), 1);
        Ships.row(x, 0, 2, 3, 2, 0, 0, 2);
        is("16 lacks by law 0", x.judge(0, 2, 0, 5), 1);
        x.law(1);
        is("16 by law 1 one was taught, but is spent", x.judge(0, 2, 0, 5), 4);
        is("16 the turns of the ship stay", x.awake(0), 0);
        Ships.row(x, 1, 1, 1, 2, 0, 0, 0, 0, 0, 0, 0, 0, 0, 0);
        is("16 the months' own wants", x.judge(1, 1, 0, 12), 1);
        is("16 fault", x.fault(), 0);
    }

    private static void judgeRefused() {
        AwakeTurns x = new AwakeTurns();
        Ships.row(x, 1, 1, 0, 8, -1, 7, 0, 0, 0, 0, 0, 0, 0, 0, 0, 0);
        is("16 unknown", x.judge(4, 9, 0, 0), AwakeTurns.UNKNOWN);
        is("16 unknown", x.judge(-1, 0, 0, 0), AwakeTurns.UNKNOWN);
        is("16 lane ahead of state", x.judge(0, 3, 0, 0), AwakeTurns.OUTSIDE);
        is("16 state ahead of null", x.judge(0, 0, 0, 0), AwakeTurns.STATE);
        is("16 state ahead of cast", x.judge(1, 0, 0, 0), AwakeTurns.STATE);
        Ships.board(x, "a;s11;f22;o48");
        is("16 cast", x.judge(1, 2, -1, -1), -12);
        is("16 null", x.judge(0, 2, -1, -1), -11);
        is("16 size", x.judge(1, 1, -1, -1), -14);
        is("16 index", x.judge(1, 1, -1, 1), -13);
        is("16 index ahead of outside", x.judge(1, 1, 1, 14), -13);
        is("16 index", x.judge(1, 1, 15, 0), -13);
        is("16 index that would wrap", x.judge(1, 1, 3, FAR), -13);
        is("16 thirteen months", x.judge(1, 1, 0, 13), AwakeTurns.OUTSIDE);
        is("16 refused: no fault", x.fault(), 0);
        is("16 a bit of nobody", x.judge(1, 1, 1, 1), AwakeTurns.OUTSIDE);
        is("16 below 0", x.judge(1, 1, 2, 1), AwakeTurns.OUTSIDE);
        is("16 all three", x.judge(1, 1, 3, 1), AwakeTurns.NONE);
        is("16 a bit of nobody, later", x.judge(1, 1, 0, 3), AwakeTurns.OUTSIDE);
        is("16 a bit of nobody, behind the last month", x.judge(1, 1, 0, 1), AwakeTurns.NONE);
    }

    private static void tradesAre(AwakeTurns x, int... pairs) {
        is("17 how many", x.trades(-1), pairs.length);
        for (int k = 0; k < pairs.length; k++) {
            is("17 pair " + k, x.trades(k), pairs[k]);
        }
        is("17 fewer", x.trades(pairs.length), AwakeTurns.NONE);
        is("17 fewer", x.trades(FAR), AwakeTurns.NONE);
    }

    private static void trades() {
        AwakeTurns x = Ships.of("a;s12;f12;s22;s39");
        tradesAre(x, 1, 2, 3, 12, 13, 23);
        Ships.turns(x, 1, 0, 1);
        tradesAre(x, 2, 3, 12, 13, 23);
        x.wants(0, 1);
        tradesAre(x, 3, 12, 13, 23);
        Ships.turns(x, 1, 0, 1, 0, 1);
        tradesAre(x, 3);
        is("17 the turns of the ship stay", x.awake(0), 1);
        AwakeTurns y = Ships.of("a;s19;s29;s09");
        Ships.turns(y, 5, 4);
        y.wants(1, 1);
        tradesAre(y, 2);
        y.law(1);
        tradesAre(y, 2, 12);
        y.wants(0, 4);
        tradesAre(y);
        is("17 unknown", y.trades(-2), AwakeTurns.UNKNOWN);
        is("17 unknown ahead of state", new AwakeTurns().trades(-2), AwakeTurns.UNKNOWN);
        is("17 state", new AwakeTurns().trades(-1), AwakeTurns.STATE);
    }

    // 18 to 23

    private static void knows() {
        AwakeTurns x = Ships.of("a;s11;s11;s11;s11");
        Ships.turns(x, 3, 0, 6, 0, 8, 12);
        is("18 at once, though cold", x.knows(3, 0, 3), 0);
        is("18 by mouth in that month", x.knows(0, 0, 1), 0);
        is("18 handed on", x.knows(0, 0, 2), 2);
        is("18 handed on", x.knows(0, 0, 3), 5);
        is("18 from a month on, not ahead of it", x.knows(0, 1, 1), AwakeTurns.NONE);
        is("18 the one itself", x.knows(0, 1, 0), 1);
        is("18 who knew it cold tells it when up", x.knows(1, 1, 2), 2);
        is("18 never", x.knows(3, 0, 0), AwakeTurns.NONE);
        is("18 the last month", x.knows(0, 11, 0), 11);
        is("18 unknown ahead of outside", x.knows(0, 12, 4), AwakeTurns.UNKNOWN);
        is("18 unknown", x.knows(-1, 0, 0), AwakeTurns.UNKNOWN);
        is("18 unknown", x.knows(4, 0, 0), AwakeTurns.UNKNOWN);
        is("18 outside", x.knows(0, 12, 0), AwakeTurns.OUTSIDE);
        is("18 outside", x.knows(0, -1, 0), AwakeTurns.OUTSIDE);
    }

    private static void knowsByNotes() {
        AwakeTurns x = Ships.of("a;s11;s11;s11;s11");
        Ships.turns(x, 1, 0, 0, 2, 12);
        x.note(0, 1);
        x.note(1, 2);
        is("18 a note of long ago", x.knows(0, 0, 1), 3);
        is("18 then by another note", x.knows(0, 0, 2), 4);
        is("18 read first, then told", x.knows(0, 0, 3), 4);
        is("18 who was not up since wrote nothing", x.knows(0, 1, 1), AwakeTurns.NONE);
        Ships.turns(x, 0, 5, 2, 2);
        is("18 no note is read cold", x.knows(1, 0, 2), AwakeTurns.NONE);
        is("18 a note is read the month after", x.knows(2, 0, 1), 2);
        Ships.turns(x, 1, 2, 4);
        is("18 from note to note, one a month", x.knows(0, 0, 2), 2);
        Ships.turns(x, 0, 0, 1, 4, 2);
        is("18 a note goes one way", x.knows(1, 0, 0), AwakeTurns.NONE);
        is("18 the writer must have been up ahead", x.knows(1, 0, 2), AwakeTurns.NONE);
    }

    private static void kept() {
        AwakeTurns x = Ships.of("a;s11;s11;s11;s11");
        Ships.turns(x, 3, 0, 6, 0, 8, 8);
        is("19 kept", x.kept(0, 0), 8);
        is("19 kept", x.kept(0, 1), 14);
        is("19 kept", x.kept(3, 0), 7);
        is("19 one who never knew is told in the last month", x.up(3, 11, true) + x.up(2, 11, true), 2);
        is("19 kept", x.kept(0, 0), 0);
        is("19 unknown ahead of outside", x.kept(4, 12), AwakeTurns.UNKNOWN);
        is("19 unknown", x.kept(-1, 0), AwakeTurns.UNKNOWN);
        is("19 outside", x.kept(0, 12), AwakeTurns.OUTSIDE);
        is("19 outside", x.kept(0, -1), AwakeTurns.OUTSIDE);
    }

    private static void reading() {
        AwakeTurns x = Ships.of("a;s11;s11");
        is("20 unknown ahead of outside", x.reading(2, 12, true), AwakeTurns.UNKNOWN);
        is("20 unknown", x.reading(-1, 0, true), AwakeTurns.UNKNOWN);
        is("20 outside", x.reading(0, 12, true), AwakeTurns.OUTSIDE);
        is("20 outside", x.reading(0, -1, true), AwakeTurns.OUTSIDE);
        for (int k = 0; k < 8; k++) {
            is("20 its number", x.reading(k % 2, k, k > 3), k);
        }
        is("20 full", x.reading(0, 0, false), AwakeTurns.FULL);
        is("20 outside ahead of full", x.reading(0, 12, false), AwakeTurns.OUTSIDE);
        is("20 unknown ahead of full", x.reading(2, 0, false), AwakeTurns.UNKNOWN);
        is("20 no ship", new AwakeTurns().reading(0, 0, true), AwakeTurns.UNKNOWN);
    }

    private static void back() {
        AwakeTurns x = Ships.of("a;s11;s11;s11");
        x.reading(0, 0, true);
        x.reading(1, 0, true);
        x.reading(2, 0, true);
        is("21 nobody told all three", x.began(0), 0);
        is("21 none taken back", x.back(0), 3);
        is("21 outside", x.back(4), AwakeTurns.OUTSIDE);
        is("21 outside", x.back(-1), AwakeTurns.OUTSIDE);
        is("21 the last two", x.back(2), 1);
        is("21 the first is left", x.began(0), 1);
        is("21 a new number", x.reading(1, 1, false), 1);
        is("21 all", x.back(2), 0);
        is("21 no ship", new AwakeTurns().back(0), 0);
        is("21 no ship", new AwakeTurns().back(1), AwakeTurns.OUTSIDE);
    }

    private static void began() {
        AwakeTurns x = Ships.of("a;s11;s11;s11;s11");
        Ships.turns(x, 3, 0, 6, 0, 8, 12);
        is("22 without readings all", x.began(5), 15);
        x.reading(2, 2, true);
        is("22 knew as it ended", x.began(0), 7);
        is("22 from month 1 on", x.began(1), 6);
        is("22 too late", x.began(3), 0);
        x.reading(1, 1, false);
        is("22 did not know", x.began(0), 4);
        is("22 did not know", x.began(2), 6);
        x.back(2);
        x.reading(0, 4, false);
        is("22 ahead of the news nobody knew", x.began(5), 15);
        x.reading(0, 5, true);
        is("22 and then but one", x.began(5), 1);
        is("22 outside", x.began(12), AwakeTurns.OUTSIDE);
        is("22 outside", x.began(-1), AwakeTurns.OUTSIDE);
        is("22 state", new AwakeTurns().began(0), AwakeTurns.STATE);
        is("22 outside ahead of state", new AwakeTurns().began(12), AwakeTurns.OUTSIDE);
    }

    private static void woken() {
        AwakeTurns x = Ships.of("a;s11;s11;s11;s11");
        Ships.turns(x, 1, 1, 6, 6, 8);
        is("23 without readings all", x.woken(0, 0, 0), 15);
        x.reading(2, 3, true);
        is("23 as it is, 2 does not know", x.knows(0, 0, 2), AwakeTurns.NONE);
        is("23 either of those who meet 2 later", x.woken(0, 0, 1), 6);
        is("23 the one who knows, later", x.woken(0, 0, 3), 1);
        is("23 too late", x.woken(0, 0, 4), 0);
        x.reading(1, 2, false);
        is("23 each alone", x.woken(0, 0, 1), 0);
        is("23 one who was up: as it is", x.woken(0, 0, 3), 1);
        x.back(2);
        x.reading(3, 11, false);
        is("23 as it is for all but one", x.woken(0, 0, 0), 7);
        x.note(0, 3);
        is("23 notes are read", x.woken(0, 0, 0), 0);
        is("23 notes are read", x.woken(0, 2, 3), 14);
        is("23 a note is read the month after, and there is none", x.woken(0, 2, 11), 15);
        is("23 the turns of the ship stay", x.awake(0), 1);
        is("23 unknown ahead of outside", x.woken(4, 12, 0), AwakeTurns.UNKNOWN);
        is("23 unknown", x.woken(-1, 0, 0), AwakeTurns.UNKNOWN);
        is("23 outside", x.woken(0, 12, 0), AwakeTurns.OUTSIDE);
        is("23 outside", x.woken(0, -1, 0), AwakeTurns.OUTSIDE);
        is("23 outside", x.woken(0, 0, 12), AwakeTurns.OUTSIDE);
        is("23 outside", x.woken(0, 0, -1), AwakeTurns.OUTSIDE);
    }

    // 24 to 29

    private static void oddsAre(AwakeTurns x, int month, long upper, long lower) {
        is("24 upper up to " + month, x.odds(month, 0), upper);
        is("24 lower up to " + month, x.odds(month, 1), lower);
    }

    private static void odds() {
        AwakeTurns x = Ships.of("a;s19;s29;s09");
        oddsAre(x, 11, 1, 1);
        Ships.turns(x, 5, 4, 7);
        x.wants(2, 1);
        oddsAre(x, 1, 1, 1);
        oddsAre(x, 2, 1, 2);
        x.wants(1, 1);
        oddsAre(x, 0, 1, 1);
        oddsAre(x, 1, 0, 1);
        x.law(1);
        oddsAre(x, 1, 1, 4);
        x.wants(2, 2);
        oddsAre(x, 2, 1, 8);
        is("24 the turns of the ship stay", x.awake(2), 7);
        AwakeTurns z = Ships.of("a;o11;s19");
        Ships.turns(z, 1, 0, 1);
        is("24 one is spent", z.wrong(1), 0);
        oddsAre(z, 11, 1, 1);
        AwakeTurns y = Ships.of("a;s19;s19;s19;s19;s19;s19");
        Ships.turns(y, 63);
        y.wants(0, 1);
        oddsAre(y, 11, 63, 64);
        long[] lost = {y.odds(12, 0), y.odds(-1, 0), y.odds(0, 2), y.odds(0, -1), new AwakeTurns().odds(0, 0)};
        for (long answer : lost) {
            is("24 lost", answer, AwakeTurns.LOST);
        }
    }

    private static void sheet() {
        AwakeTurns x = new AwakeTurns();
        is("25 new", x.sheet(0, 0, 60), 1);
        x.put(0, 59, 5);
        is("25 its last cell", x.cell(0, 59, 0), 5);
        is("25 size changes nothing", x.sheet(0, 0, -1), -14);
        is("25 size changes nothing", x.sheet(0, 1, FAR_BELOW), -14);
        is("25 outside changes nothing", x.sheet(0, 0, 61), AwakeTurns.OUTSIDE);
        is("25 outside", x.sheet(0, 0, FAR), AwakeTurns.OUTSIDE);
        is("25 its last cell", x.cell(0, 59, 0), 5);
        is("25 anew", x.sheet(0, 0, 60), 1);
        is("25 0 at first", x.cell(0, 59, 0), 0);
        is("25 of another lane", x.sheet(0, 2, 0), 1);
        is("25 empty", x.cell(0, 0, 2), AwakeTurns.LOST);
        is("25 empty: index", x.fault(), 3);
        is("25 unknown ahead of outside", x.sheet(4, 3, -1), AwakeTurns.UNKNOWN);
        is("25 unknown", x.sheet(-1, 0, 1), AwakeTurns.UNKNOWN);
        is("25 lane ahead of size", x.sheet(0, 3, -1), AwakeTurns.OUTSIDE);
        is("25 lane", x.sheet(0, -1, 1), AwakeTurns.OUTSIDE);
    }

    private static void lose() {
        AwakeTurns x = new AwakeTurns();
        is("26 nothing", x.lose(3), 0);
        x.sheet(3, 1, 0);
        is("26 an empty row is something", x.lose(3), 1);
        is("26 nothing", x.lose(3), 0);
        is("26 null", x.put(3, 0, 0), -11);
        is("26 unknown", x.lose(4), AwakeTurns.UNKNOWN);
        is("26 unknown", x.lose(-1), AwakeTurns.UNKNOWN);
        is("26 names no fault", x.fault(), 1);
    }

    private static void put() {
        AwakeTurns x = new AwakeTurns();
        int[] values = {127, 128, -129, 32768, 65535, FAR, FAR_BELOW};
        for (int lane = 0; lane < 3; lane++) {
            x.sheet(lane, lane, 1);
            for (int v : values) {
                is("27 put", x.put(lane, 0, v), 1);
                is("27 cut to its lane", x.cell(lane, 0, lane), lane == 0 ? (byte) v : lane == 1 ? (short) v : v);
            }
        }
        is("27 index", x.put(0, 1, 1), -13);
        is("27 index", x.put(0, -1, 1), -13);
        is("27 null ahead of index", x.put(3, -1, 1), -11);
        is("27 unknown", x.put(4, 0, 1), AwakeTurns.UNKNOWN);
        is("27 unknown", x.put(-1, 0, 1), AwakeTurns.UNKNOWN);
        is("27 refused: no fault", x.fault(), 0);
    }

    private static void cellLost(AwakeTurns x, int k, int i, int lane, int fault) {
        is("28 cell(" + k + ", " + i + ", " + lane + ")", x.cell(k, i, lane), AwakeTurns.LOST);
        is("28 fault", x.fault(), fault);
    }

    private static void cell() {
        AwakeTurns x = new AwakeTurns();
        Ships.row(x, 1, 1, 7, -8);
        is("28 cell", x.cell(1, 0, 1), 7);
        is("28 cell", x.cell(1, 1, 1), -8);
        cellLost(x, 1, 2, 1, 3);
        cellLost(x, 1, -1, 1, 3);
        cellLost(x, 1, -1, 0, 2);
        cellLost(x, 1, 0, 2, 2);
        cellLost(x, 0, -1, 2, 1);
        cellLost(x, 4, 0, 1, 0);
        cellLost(x, -1, 0, 1, 0);
        cellLost(x, 0, 0, 3, 0);
        cellLost(x, 1, 0, -1, 0);
        cellLost(x, 1, FAR, 1, 3);
        is("28 cell", x.cell(1, 0, 1), 7);
        is("28 no fault", x.fault(), 0);
    }

    private static void cellsAre(AwakeTurns x, int k, int lane, int... cells) {
        for (int i = 0; i < cells.length; i++) {
            is("29 cell " + i, x.cell(k, i, lane), cells[i]);
        }
    }

    private static void copy() {
        AwakeTurns x = new AwakeTurns();
        Ships.row(x, 0, 2, 1, 2, 3, 4, 5);
        Ships.row(x, 1, 2, 0, 0, 0);
        Ships.row(x, 2, 1, 0, 0, 0);
        is("29 to another one", x.copy(0, 3, 1, 1, 2), 2);
        cellsAre(x, 1, 2, 0, 4, 5);
        is("29 to the right in itself", x.copy(0, 0, 0, 1, 4), 4);
        cellsAre(x, 0, 2, 1, 1, 2, 3, 4);
        is("29 to the left in itself", x.copy(0, 1, 0, 0, 4), 4);
        cellsAre(x, 0, 2, 1, 2, 3, 4, 4);
        is("29 none, at both ends", x.copy(0, 5, 1, 3, 0), 0);
        is("29 no fault", x.fault(), 0);
        int[][] beyond = {{-1, 0, 1}, {0, -1, 1}, {0, 0, -1}, {5, 0, 1}, {0, 3, 1}, {6, 0, 0}, {0, 4, 0}, {0, 0, 4},
            {3, 0, 3}, {FAR, 0, 1}, {0, FAR, 1}, {1, 1, FAR}, {0, 0, FAR_BELOW}};
        for (int[] b : beyond) {
            is("29 index " + b[0] + " " + b[1] + " " + b[2], x.copy(0, b[0], 1, b[1], b[2]), -13);
        }
        is("29 cast ahead of index", x.copy(0, -1, 2, 0, 1), -12);
        is("29 null, the first", x.copy(3, -1, 2, 0, 1), -11);
        is("29 null, the other", x.copy(2, -1, 3, 0, 1), -11);
        is("29 null, both one", x.copy(3, 0, 3, 0, 0), -11);
        is("29 unknown ahead of null", x.copy(3, 0, 4, 0, 0), AwakeTurns.UNKNOWN);
        is("29 unknown", x.copy(-1, 0, 0, 0, 0), AwakeTurns.UNKNOWN);
        is("29 unknown", x.copy(4, 0, 0, 0, 0), AwakeTurns.UNKNOWN);
        is("29 unknown", x.copy(0, 0, -1, 0, 0), AwakeTurns.UNKNOWN);
        cellsAre(x, 1, 2, 0, 4, 5);
    }

    // 30 to 35

    private static int marked(int... numbers) {
        int trace = 0;
        for (int number : numbers) {
            trace = 31 * trace + number;
        }
        return trace;
    }

    private static void tell() {
        String[] texts = {"a;s04;s01", "a;f04;s01", "a;o04;s01"};
        int[] gives = {4, 104, 108};
        int[] traces = {marked(1), marked(2, 1), marked(3, 2, 1, 1)};
        for (int kind = 0; kind < 3; kind++) {
            AwakeTurns x = Ships.of(texts[kind]);
            is("30 tell", x.tell(0), gives[kind]);
            is("30 trace", x.trace(), traces[kind]);
            is("30 unknown", x.tell(2), AwakeTurns.UNKNOWN);
            is("30 unknown", x.tell(-1), AwakeTurns.UNKNOWN);
            is("30 refused: no mark", x.trace(), traces[kind]);
        }
        is("30 no ship", new AwakeTurns().tell(0), AwakeTurns.UNKNOWN);
    }

    private static void greet() {
        AwakeTurns x = Ships.of("a;o04;s01;f01");
        is("31 old", x.greet(0), 60);
        is("31 sleeper", x.greet(1), 1);
        is("31 frail", x.greet(2), 2);
        is("31 unknown", x.greet(3), AwakeTurns.UNKNOWN);
        is("31 unknown", x.greet(-1), AwakeTurns.UNKNOWN);
        is("31 trace", x.trace(), marked(5, 4, 4));
    }

    private static void as() {
        AwakeTurns x = Ships.of("a;s04;f01;o01");
        for (int s = 0; s < 3; s++) {
            for (int kind = 0; kind < 3; kind++) {
                is("32 as(" + s + ", " + kind + ")", x.as(s, kind), kind <= s ? 1 : -12);
                is("32 fault", x.fault(), kind <= s ? 0 : 2);
            }
        }
        is("32 outside", x.as(0, 3), AwakeTurns.OUTSIDE);
        is("32 outside", x.as(0, -1), AwakeTurns.OUTSIDE);
        is("32 unknown ahead of outside", x.as(3, 3), AwakeTurns.UNKNOWN);
        is("32 unknown", x.as(-1, 0), AwakeTurns.UNKNOWN);
    }

    private static void trace() {
        AwakeTurns x = Ships.of("a;s04;f01;o01");
        int want = 0;
        for (int k = 0; k < 40; k++) {
            is("33 tell", x.tell(0), 4);
            want = 31 * want + 1;
            is("33 it wraps", x.trace(), want);
        }
        Ships.board(x, "a;s04;f01");
        is("33 a new ship leaves it", x.trace(), want);
    }

    private static void fault() {
        AwakeTurns x = Ships.of("a;s04;f01;o01");
        x.sheet(0, 0, 1);
        x.lose(1);
        // Each call that names faults: one that comes to none, and one that is refused, tell 0 after a fault.
        for (int k = 0; k < 15; k++) {
            is("34 size", x.sheet(2, 0, -1), -14);
            is("34 size", x.fault(), 4);
            switch (k) {
                case 0: x.ship(0, 0, 0, 1); break;
                case 1: x.ship(4, 0, 0, 1); break;
                case 2: x.judge(0, 0, 0, 1); break;
                case 3: x.judge(0, 3, 0, 1); break;
                case 4: x.judge(0, 0, 0, 0); break;
                case 5: x.sheet(2, 0, 1); break;
                case 6: x.sheet(2, 0, 61); break;
                case 7: x.put(0, 0, 127); break;
                case 8: x.put(4, 0, 0); break;
                case 9: x.cell(0, 0, 0); break;
                case 10: x.cell(0, 0, 3); break;
                case 11: x.copy(0, 0, 0, 0, 1); break;
                case 12: x.copy(0, 0, 4, 0, 1); break;
                case 13: x.as(0, 0); break;
                default: x.as(3, 0);
            }
            is("34 none behind call " + k, x.fault(), 0);
        }
        x.put(0, 1, 1);
        // No other call touches it.
        x.ofSleeper(9, 0);
        x.up(0, 0, true);
        x.wants(0, 9);
        x.law(0);
        x.note(0, 0);
        x.tear(0);
        x.wrong(0);
        x.least(-1);
        x.trades(-1);
        x.knows(0, 0, 9);
        x.reading(0, 0, true);
        x.woken(0, 0, 0);
        x.odds(12, 0);
        x.lose(4);
        x.lose(1);
        x.tell(9);
        x.greet(0);
        x.trace();
        x.many(9);
        is("34 it stays", x.fault(), 3);
        is("34 it stays", x.fault(), 3);
    }

    private static void many() {
        AwakeTurns x = Ships.of("a;s04;f01;o01");
        x.note(0, 1);
        x.note(1, 0);
        x.reading(0, 0, true);
        x.law(1);
        int[] want = {3, 2, 1, 1};
        for (int what = 0; what < 4; what++) {
            is("35 many(" + what + ")", x.many(what), want[what]);
        }
        is("35 outside", x.many(4), AwakeTurns.OUTSIDE);
        is("35 outside", x.many(-1), AwakeTurns.OUTSIDE);
        is("35 outside without a ship", new AwakeTurns().many(4), AwakeTurns.OUTSIDE);
    }

    // all calls at the document's greatest sizes

    private static void sixSleepers() {
        AwakeTurns x = Ships.of("a;o19;o29;f19;f29;s19;s29");
        Ships.turns(x, 63, 0, 63, 0, 63, 0, 63, 0, 63, 0, 63, 0);
        x.law(1);
        is("11 six", x.skills(5, 1), 3);
        is("10 six", x.harm(0, 11), 24);
        is("13 six", x.wrong(1), 4);
        is("13 six", x.wrong(2), 0);
        is("14 six", x.cover(0), 0);
        leastRow(x, 0);
        x.wants(0, 3);
        is("14 six", x.cover(0), 3);
        leastRow(x, 2, 48);
        x.wants(11, 4);
        is("14 six", x.cover(11), AwakeTurns.NONE);
        is("15 six", x.least(-1), AwakeTurns.NONE);
        is("17 six", x.trades(-1), 0);
        is("24 six", x.odds(11, 0), 0);
        is("24 six", x.odds(10, 0), 49);
        is("24 six", x.odds(10, 1), 64);
        Ships.row(x, 0, 0, 63, 63, 63, 63, 63, 63, 63, 63, 63, 63, 63, 63);
        is("16 six", x.judge(0, 0, 0, 12), 11);
        for (int k = 0; k < 8; k++) {
            x.note(5, k % 5);
            x.reading(k % 6, 11, true);
        }
        is("22 six", x.began(0), 63);
        is("23 six", x.woken(5, 11, 11), 0);
        is("19 six", x.kept(5, 11), 31);
    }
}
