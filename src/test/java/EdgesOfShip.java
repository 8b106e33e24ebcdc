/** The text of a ship, and promises 1 to 8. */
final class EdgesOfShip {
    private static final int UNKNOWN = AwakeTurns.UNKNOWN, OUTSIDE = AwakeTurns.OUTSIDE, STATE = AwakeTurns.STATE;
    private static final int FAR = Edge.FAR, FAR_BELOW = Edge.FAR_BELOW;
    private static final String SIX = "a;s11;f22;o33;s44;f55;o66";
    private final Edge e;

    EdgesOfShip(Edge e) {
        this.e = e;
    }

    void run() {
        fewestAndMost();
        everyCodeAtEveryPlace();
        firstOfSeveralFaults();
        endsTooSoon();
        codes();
        kinds();
        allAnew();
        newObject();
        ship();
        shipRefused();
        ofSleeper();
        up();
        wants();
        law();
        note();
        noteFull();
        tear();
    }

    private void fewestAndMost() {
        e.sentence(0, "A SHIP by a TEXT: a, then 2 to 6 SLEEPERS, numbered from 0 on");
        for (int count = 0; count <= 6; count++) {
            AwakeTurns x = new AwakeTurns();
            Ships.write(x, 0, 0, 0, SIX);
            int taken = count < 2 ? 0 : count;
            e.is(x.ship(0, 0, 0, 1 + 4 * count), count < 2 ? -101 - 4 * count : count);
            e.is(x.many(0), taken);
            for (int s = -1; s <= 6; s++) {
                e.is(x.ofSleeper(s, 2), s >= 0 && s < taken ? s + 1 : UNKNOWN);
            }
        }
    }

    private static boolean mayStand(int code, int place) {
        String codes = place == 0 ? "a" : new String[] {"123456789", ";", "sfo", "01234567"}[place % 4];
        return code > 0 && codes.indexOf(code) >= 0;
    }

    private void everyCodeAtEveryPlace() {
        e.sentence(0, "each: ; and a letter, a digit 0 .. 7 (SKILLS, as a set of 0 .. 2), a digit 1 .. 9 (BEARS)");
        for (int lane = 0; lane < 3; lane++) {
            for (int place = 0; place < 25; place++) {
                codesAt(lane, place, -128, -1);
                codesAt(lane, place, 0, 127);
                if (lane > 0) {
                    codesAt(lane, place, 256, 383);
                    codesAt(lane, place, -256, -129);
                }
                if (lane > 1) {
                    codesAt(lane, place, 65536, 65663);
                }
            }
        }
    }

    private void codesAt(int lane, int place, int from, int to) {
        AwakeTurns x = new AwakeTurns();
        Ships.write(x, lane, lane, 7, SIX);
        for (int code = from; code <= to; code++) {
            x.put(lane, 7 + place, code);
            e.is(x.ship(lane, lane, 7, 25), mayStand(code, place) ? 6 : -100 - place);
        }
    }

    private void fault(String text, int place) {
        AwakeTurns x = new AwakeTurns();
        Ships.write(x, 0, 0, 0, text);
        e.is(x.ship(0, 0, 0, text.length()), -100 - place);
        e.is(x.many(0), 0);
    }

    private void firstOfSeveralFaults() {
        e.sentence(0, "FIRST FAULT: the place (from 0 on) of the first code with which no TEXT goes on (the ; of a seventh SLEEPER)");
        fault("b", 0);
        fault("b;s11;s11", 0);
        fault("ab;c", 1);
        fault("a;s8x", 3);
        fault("a;s1", 4);
        fault("a;s10", 4);
        fault("a;s11;s11;x", 10);
        fault("a;s11;s11x", 9);
        fault("a;s11a", 5);
        fault(SIX + ";", 25);
        fault(SIX + ";s11", 25);
        fault(SIX + "x", 25);
        fault(SIX + ";s11;s11;s11;s11;s11;s11;s11;s11", 25);
        fault(SIX.replace("o66", "o60") + ";s11", 24);
    }

    private void endsTooSoon() {
        e.sentence(0, "how many codes there are, if it just ends too soon");
        AwakeTurns x = new AwakeTurns();
        Ships.write(x, 0, 0, 35, SIX);
        for (int n = 0; n <= 25; n++) {
            boolean whole = n % 4 == 1 && n >= 9;
            e.is(x.ship(0, 0, 35, n), whole ? n / 4 : -100 - n);
        }
        e.is(x.ship(0, 0, 60, 0), -100);
    }

    private void codes() {
        e.sentence(0, "(Codes: a 97, s 115, f 102, o 111, ; 59, digits 48 .. 57.)");
        for (int bears = 1; bears <= 9; bears++) {
            for (int skills = 0; skills <= 7; skills++) {
                AwakeTurns x = new AwakeTurns();
                Ships.row(x, 2, 2, 97, 59, 115, 48 + skills, 48 + bears, 59, 102, 48, 57, 59, 111, 55, 49);
                e.is(x.ship(2, 2, 0, 13), 3);
                e.is(x.ofSleeper(0, 1), skills);
                e.is(x.ofSleeper(0, 2), bears);
                e.is(x.ofSleeper(1, 1), 0);
                e.is(x.ofSleeper(1, 2), 9);
                e.is(x.ofSleeper(2, 1), 7);
                e.is(x.ofSleeper(2, 2), 1);
            }
        }
    }

    private void kinds() {
        e.sentence(0, "Kinds: 0 SLEEPER (s); 1 FRAIL (f), a SLEEPER; 2 OLD (o), a FRAIL");
        AwakeTurns x = Ships.of("a;o11;f11;s11");
        for (int s = 0; s < 3; s++) {
            e.is(x.ofSleeper(s, 0), 2 - s);
            for (int kind = 0; kind < 3; kind++) {
                e.is(x.as(s, kind), kind <= 2 - s ? 1 : -12);
            }
        }
    }

    private void allAnew() {
        e.sentence(0, "A TEXT that is taken makes all anew: nobody is ever UP, no MONTH WANTS anything, the LAW is 0, no"
            + " NOTES, no READINGS");
        AwakeTurns x = Ships.full();
        for (int m = 0; m < 12; m++) {
            x.up(3, m, true);
            x.wants(m, 7);
        }
        int trace = x.trace();
        e.is(x.ship(0, 0, 0, 13), 3);
        for (int m = 0; m < 12; m++) {
            e.is(x.awake(m), 0);
            e.is(x.lacks(m), 0);
            e.is(x.wants(m, 0), 0);
        }
        int[] many = {3, 0, 0, 0};
        for (int what = 0; what < 4; what++) {
            e.is(x.many(what), many[what]);
        }
        e.is(x.tell(3), UNKNOWN);
        e.is(x.began(0), 7);
        e.is(x.note(0, 1), 0);
        e.is(x.reading(0, 0, true), 0);
        // The list names neither TRACE nor SHEETS: they stay.
        e.is(x.trace(), trace);
        e.is(x.cell(0, 16, 0), '3');
        e.is(x.cell(1, 1, 1), -300);
    }

    private void newObject() {
        e.sentence(1, "No SHIP (no SLEEPERS), SHEETS have nothing");
        AwakeTurns x = new AwakeTurns();
        for (int what = 0; what < 4; what++) {
            e.is(x.many(what), 0);
        }
        e.is(x.ofSleeper(0, 0), UNKNOWN);
        e.is(x.tell(0), UNKNOWN);
        e.is(x.awake(0), STATE);
        for (int k = 0; k < 4; k++) {
            e.is(x.put(k, 0, 0), -11);
            e.is(x.lose(k), 0);
        }
    }

    private void ship() {
        e.sentence(2, "A SHIP by a TEXT of n cells of a SHEET from i on, taken as a row of a LANE: how many SLEEPERS");
        for (int k = 0; k < 4; k++) {
            for (int lane = 0; lane < 3; lane++) {
                AwakeTurns x = new AwakeTurns();
                Ships.write(x, k, lane, 51, "a;s13;o47");
                e.is(x.ship(k, lane, 51, 9), 2);
                e.is(x.fault(), 0);
                e.is(x.ofSleeper(1, 2), 7);
                Ships.write(x, k, lane, 0, SIX);
                e.is(x.ship(k, lane, 0, 25), 6);
                e.is(x.ofSleeper(5, 2), 6);
            }
        }
        e.sentence(2, "-100 less the FIRST FAULT");
        fault("", 0);
        fault("a", 1);
        fault(SIX + ";", 25);
    }

    private void shipRefused() {
        e.sentence(2, "UNKNOWN");
        for (int k : Edge.NO_SHEETS) {
            e.declines(UNKNOWN, x -> x.ship(k, 0, 0, 17));
        }
        e.sentence(2, "OUTSIDE: lane");
        for (int lane : Edge.NO_LANES) {
            e.declines(OUTSIDE, x -> x.ship(0, lane, 0, 17));
        }
        e.sentence(2, "CAST (nothing is no CAST)");
        e.fails(Edge.CAST, x -> x.ship(0, 1, 0, 17), x -> x.ship(0, 2, 0, 17), x -> x.ship(1, 0, 0, 3), x -> x.ship(2, 1, 0, 3));
        e.fails(Edge.NULL, x -> x.ship(3, 0, 0, 17), x -> x.ship(3, 1, 0, 17), x -> x.ship(3, 2, 0, 17));
        e.sentence(2, "NULL");
        e.fails(Edge.NULL, x -> x.ship(3, 0, 0, 0), x -> x.ship(3, 0, -1, 0));
        e.sentence(2, "SIZE: n below 0");
        e.fails(Edge.SIZE, x -> x.ship(0, 0, 0, -1), x -> x.ship(0, 0, 17, -1), x -> x.ship(0, 0, 0, FAR_BELOW));
        e.sentence(2, "INDEX");
        e.fails(Edge.INDEX, x -> x.ship(0, 0, 1, 17), x -> x.ship(0, 0, -1, 17), x -> x.ship(0, 0, 0, 18), x -> x.ship(0, 0, 18, 0));
        e.sentence(2, "-100 less it");
        e.keepsAll(-116, x -> x.ship(0, 0, 0, 16));
        e.keepsAll(-100, x -> x.ship(0, 0, 1, 16), x -> x.ship(0, 0, 0, 0), x -> x.ship(1, 1, 0, 3), x -> x.ship(2, 2, 0, 14));
    }

    private void ofSleeper() {
        e.sentence(3, "Of a SLEEPER: 0 kind, 1 SKILLS by the TEXT, 2 BEARS, 3 HARM by one time");
        AwakeTurns x = Ships.dressed();
        int[][] all = {{0, 1, 5, 1}, {1, 2, 9, 2}, {2, 4, 9, 4}, {0, 3, 3, 1}};
        for (int s = 0; s < 4; s++) {
            for (int what = 0; what < 4; what++) {
                e.is(x.ofSleeper(s, what), all[s][what]);
            }
        }
        // By the TEXT: what was taught under the LAW is not told here.
        e.is(x.skills(0, 11), 3);
        e.is(x.ofSleeper(0, 1), 1);
        e.sentence(3, "UNKNOWN");
        for (int s : Edge.NO_SLEEPERS) {
            e.refuses(UNKNOWN, y -> y.ofSleeper(s, 0), y -> y.ofSleeper(s, 3));
        }
        e.refusesWithoutShip(UNKNOWN, y -> y.ofSleeper(0, 0));
        e.sentence(3, "OUTSIDE");
        e.refuses(OUTSIDE, y -> y.ofSleeper(0, -1), y -> y.ofSleeper(3, 4), y -> y.ofSleeper(0, FAR), y -> y.ofSleeper(0, FAR_BELOW));
    }

    private void up() {
        e.sentence(4, "A SLEEPER is UP in a MONTH (true), or not: 1");
        AwakeTurns x = Ships.of(SIX);
        for (int m = 0; m < 12; m++) {
            for (int s = 0; s < 6; s++) {
                e.is(x.up(s, m, true), 1);
                e.is(x.awake(m), (2 << s) - 1);
            }
        }
        for (int m = 0; m < 12; m++) {
            for (int s = 0; s < 6; s++) {
                e.is(x.up(s, m, false), 1);
            }
            e.is(x.awake(m), 0);
        }
        e.sentence(4, "0: it was so");
        for (int m = 0; m < 12; m++) {
            e.is(x.up(5, m, false), 0);
            e.is(x.awake(m), 0);
            x.up(5, m, true);
            e.is(x.up(5, m, true), 0);
            e.is(x.awake(m), 32);
        }
        e.sentence(4, "UNKNOWN");
        for (int s : Edge.NO_SLEEPERS) {
            e.refuses(UNKNOWN, y -> y.up(s, 1, true), y -> y.up(s, 0, false));
        }
        e.refusesWithoutShip(UNKNOWN, y -> y.up(0, 0, true));
        e.sentence(4, "OUTSIDE");
        for (int m : Edge.NO_MONTHS) {
            e.refuses(OUTSIDE, y -> y.up(0, m, true), y -> y.up(3, m, false));
        }
    }

    private void wants() {
        e.sentence(5, "What a MONTH WANTS becomes a set of SKILLS (0 .. 7): what it was");
        AwakeTurns x = Ships.of(SIX);
        for (int m = 0; m < 12; m++) {
            e.is(x.wants(m, 7), 0);
            for (int skills = 0; skills <= 7; skills++) {
                e.is(x.wants(m, skills), skills == 0 ? 7 : skills - 1);
                e.is(x.lacks(m), skills);
            }
        }
        e.sentence(5, "OUTSIDE");
        e.refuses(OUTSIDE, y -> y.wants(0, -1), y -> y.wants(11, 8), y -> y.wants(2, FAR), y -> y.wants(2, FAR_BELOW));
        for (int m : Edge.NO_MONTHS) {
            e.refuses(OUTSIDE, y -> y.wants(m, 0), y -> y.wants(m, 7));
        }
        e.sentence(5, "STATE: there is no SHIP");
        e.refusesWithoutShip(STATE, y -> y.wants(0, 0), y -> y.wants(11, 7));
    }

    private void law() {
        e.sentence(6, "The LAW becomes v: what it was");
        AwakeTurns x = Ships.of(SIX);
        int[] laws = {0, 1, 1, 0, 0, 1};
        int was = 0;
        for (int v : laws) {
            e.is(x.law(v), was);
            e.is(x.many(3), v);
            was = v;
        }
        e.sentence(6, "OUTSIDE: 0, 1");
        e.refuses(OUTSIDE, y -> y.law(-1), y -> y.law(2), y -> y.law(FAR), y -> y.law(FAR_BELOW));
        e.sentence(6, "STATE: there is no SHIP");
        e.refusesWithoutShip(STATE, y -> y.law(0), y -> y.law(1));
    }

    private void note() {
        e.sentence(7, "A NOTE of one to another one (8 at most): its number");
        AwakeTurns x = Ships.of(SIX);
        for (int k = 0; k < 8; k++) {
            e.is(x.note(k % 6, (k + 5) % 6), k);
            e.is(x.many(1), k + 1);
        }
        x.tear(8);
        for (int k = 0; k < 8; k++) {
            // One like it may stand already: it is one more all the same.
            e.is(x.note(5, 0), k);
        }
        e.sentence(7, "UNKNOWN: SLEEPERS (they are one: so, too)");
        for (int s : Edge.NO_SLEEPERS) {
            e.refuses(UNKNOWN, y -> y.note(s, 0), y -> y.note(3, s), y -> y.note(s, s));
        }
        e.refuses(UNKNOWN, y -> y.note(0, 0), y -> y.note(1, 1), y -> y.note(2, 2), y -> y.note(3, 3));
        e.refusesWithoutShip(UNKNOWN, y -> y.note(0, 1), y -> y.note(1, 0));
    }

    private void noteFull() {
        e.sentence(7, "FULL");
        e.refusesWhenFull(AwakeTurns.FULL, y -> y.note(0, 1), y -> y.note(3, 2));
        AwakeTurns x = Ships.full();
        e.is(x.note(0, 1), AwakeTurns.FULL);
        e.is(x.many(1), 8);
        e.is(x.tear(1), 7);
        e.is(x.note(0, 1), 7);
        e.is(x.note(0, 1), AwakeTurns.FULL);
    }

    private void tear() {
        e.sentence(8, "The last k NOTES (0 .. as many as there are) are torn: how many are left");
        for (int k = 0; k <= 8; k++) {
            AwakeTurns x = Ships.full();
            e.is(x.tear(k), 8 - k);
            e.is(x.many(1), 8 - k);
            e.is(x.tear(0), 8 - k);
            e.is(x.tear(9 - k), OUTSIDE);
            e.is(x.tear(8 - k), 0);
            e.is(x.tear(0), 0);
            e.is(x.tear(1), OUTSIDE);
        }
        AwakeTurns x = Ships.of("a;s11;s11;s11");
        Ships.turns(x, 1, 2, 4);
        x.note(0, 1);
        x.note(0, 2);
        e.is(x.kept(0, 0), 0);
        e.is(x.tear(1), 1);
        e.is(x.kept(0, 0), 4);
        e.is(new AwakeTurns().tear(0), 0);
        e.is(new AwakeTurns().tear(1), OUTSIDE);
        e.sentence(8, "OUTSIDE");
        e.refuses(OUTSIDE, y -> y.tear(-1), y -> y.tear(4), y -> y.tear(FAR), y -> y.tear(FAR_BELOW));
        e.refusesWhenFull(OUTSIDE, y -> y.tear(-1), y -> y.tear(9));
        e.refusesWithoutShip(OUTSIDE, y -> y.tear(1), y -> y.tear(-1));
    }
}
