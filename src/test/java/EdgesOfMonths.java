/** What the months want, who is thawed, what is taught; and promises 9 to 17. */
final class EdgesOfMonths {
    private static final int UNKNOWN = AwakeTurns.UNKNOWN, OUTSIDE = AwakeTurns.OUTSIDE, STATE = AwakeTurns.STATE;
    private static final int NONE = AwakeTurns.NONE, FAR = Edge.FAR, FAR_BELOW = Edge.FAR_BELOW;
    private static final String NO_SHIP = "STATE: there is no SHIP";
    private final Edge e;

    EdgesOfMonths(Edge e) {
        this.e = e;
    }

    void run() {
        monthsAreTwelve();
        eachMonthHasItsOwn();
        thawed();
        harmOfKinds();
        lawZero();
        lawOne();
        lacksOfAMonth();
        firstLack();
        firstSpent();
        whoIsSpent();
        coverOfAMonth();
        leastHarm();
        leastTurns();
        judged();
        tradesRise();
        awake();
        harm();
        skills();
        lacks();
        wrong();
        cover();
        least();
        judge();
        judgeRefused();
        judgeCells();
        trades();
    }

    private void monthsAreTwelve() {
        e.sentence(0, "MONTHS are 0 .. 11");
        for (int m : Edge.NO_MONTHS) {
            e.refuses(OUTSIDE, x -> x.up(0, m, true), x -> x.wants(m, 1), x -> x.awake(m), x -> x.harm(0, m),
                x -> x.skills(0, m), x -> x.lacks(m), x -> x.cover(m), x -> x.knows(0, m, 1), x -> x.kept(0, m),
                x -> x.reading(0, m, true), x -> x.began(m), x -> x.woken(0, m, 0), x -> x.woken(0, 0, m));
            e.refuses(AwakeTurns.LOST, x -> x.odds(m, 0));
        }
        for (int m = 0; m < 12; m += 11) {
            AwakeTurns x = Ships.of("a;s11;s21");
            e.is(x.wants(m, 1), 0);
            e.is(x.up(1, m, true), 1);
            e.is(x.awake(m), 2);
            e.is(x.harm(1, m), 1);
            e.is(x.skills(1, m), 2);
            e.is(x.lacks(m), 1);
            e.is(x.cover(m), 1);
            e.is(x.least(m), 1);
            e.is(x.knows(1, m, 1), m);
            e.is(x.kept(1, m), 1);
            e.is(x.reading(1, m, true), 0);
            e.is(x.began(m), 2);
            e.is(x.woken(1, m, m), 3);
            e.odds(x, m, 0, 1);
        }
    }

    private void eachMonthHasItsOwn() {
        e.sentence(0, "In each some are UP (TURNS: sets of them, MONTH by MONTH)");
        AwakeTurns x = Ships.of("a;s19;s29;s49;s79");
        for (int m = 0; m < 12; m++) {
            for (int s = 0; s < 4; s++) {
                x.up(s, m, (m + 2 >> s & 1) == 1);
            }
        }
        for (int m = 0; m < 12; m++) {
            e.is(x.awake(m), m + 2);
        }
        e.sentence(0, "each MONTH WANTS some SKILLS");
        for (int m = 0; m < 12; m++) {
            e.is(x.wants(m, m % 8), 0);
        }
        for (int m = 0; m < 12; m++) {
            e.is(x.wants(m, 0), m % 8);
        }
    }

    private void thawed() {
        e.sentence(0, "THAWED: one that is UP in a MONTH, and was not in the one ahead of it (or it is MONTH 0)");
        for (int m = 0; m < 12; m++) {
            AwakeTurns x = Ships.of("a;s09;s09");
            x.up(1, m, true);
            e.is(m == 0 ? 0 : x.harm(1, m - 1), 0);
            e.is(x.harm(1, m), 1);
            e.is(x.harm(1, 11), 1);
            e.is(x.harm(0, 11), 0);
            e.is(m < 11 ? x.up(1, m + 1, true) : 1, 1);
            e.is(x.harm(1, 11), 1);
            x.up(1, m, false);
            e.is(x.harm(1, 11), m < 11 ? 1 : 0);
            e.is(m >= 2 ? x.up(1, m - 1, true) : 1, 1);
            e.is(x.harm(1, 11), (m < 11 ? 1 : 0) + (m >= 2 ? 1 : 0));
        }
        AwakeTurns all = Ships.of("a;s09;s09");
        Ships.turns(all, 1, 1, 1, 1, 1, 1, 1, 1, 1, 1, 1, 1);
        e.is(all.harm(0, 0), 1);
        e.is(all.harm(0, 11), 1);
    }

    private void harmOfKinds() {
        e.sentence(0, "Each time does HARM to it: to a SLEEPER 1; to a FRAIL one 1 more; to an OLD one twice that of a FRAIL one");
        AwakeTurns x = Ships.of("a;s01;f01;o01");
        Ships.turns(x, 7, 0, 7, 0, 7, 0, 7, 0, 7, 0, 7, 0);
        int[] once = {1, 2, 4};
        for (int s = 0; s < 3; s++) {
            e.is(x.ofSleeper(s, 3), once[s]);
            for (int m = 0; m < 12; m++) {
                e.is(x.harm(s, m), once[s] * (m / 2 + 1));
            }
        }
    }

    private void lawZero() {
        e.sentence(0, "KNOWLEDGE (SKILLS of one in a MONTH): LAW 0: those it has by the TEXT");
        AwakeTurns x = Ships.of("a;s19;s29;s49;s09");
        Ships.turns(x, 15, 15, 15, 15, 15, 15, 15, 15, 15, 15, 15, 15);
        int[] skills = {1, 2, 4, 0};
        for (int s = 0; s < 4; s++) {
            for (int m = 0; m < 12; m++) {
                e.is(x.skills(s, m), skills[s]);
            }
        }
        x.law(1);
        e.is(x.skills(3, 11), 7);
        x.law(0);
        e.is(x.skills(3, 11), 0);
    }

    private void lawOne() {
        e.sentence(0, "LAW 1: who is UP together in a MONTH has, from the next MONTH on, all SKILLS that any of them had in it");
        AwakeTurns x = Ships.of("a;s19;s29;s49;s09");
        Ships.turns(x, 3, 6, 0, 8, 0, 0, 0, 0, 0, 0, 12, 9);
        x.law(1);
        int[][] due = {{0, 0, 1}, {1, 0, 2}, {0, 1, 3}, {1, 1, 3}, {2, 1, 4}, {2, 2, 7}, {1, 2, 7}, {0, 2, 3}, {0, 11, 3},
            {3, 3, 0}, {3, 4, 0}, {3, 10, 0}, {3, 11, 7}, {2, 10, 7}};
        for (int[] d : due) {
            e.is(x.skills(d[0], d[1]), d[2]);
        }
        AwakeTurns six = Ships.of("a;s09;s19;s09;s29;s09;s49");
        Ships.turns(six, 63);
        six.law(1);
        for (int s = 0; s < 6; s++) {
            e.is(six.skills(s, 0), s % 2 == 0 ? 0 : 1 << s / 2);
            e.is(six.skills(s, 1), 7);
        }
    }

    private void lacksOfAMonth() {
        e.sentence(0, "LACKS of a MONTH: SKILLS that it WANTS, and none who is UP has");
        AwakeTurns x = Ships.of("a;s19;s29;s49");
        x.wants(5, 7);
        int[] due = {7, 6, 5, 4, 3, 2, 1, 0};
        for (int set = 0; set < 8; set++) {
            Ships.turns(x, 7, 0, 0, 0, 0, set, 7);
            e.is(x.lacks(5), due[set]);
        }
        x.up(0, 5, false);
        e.is(x.lacks(5), 1);
        x.law(1);
        e.is(x.lacks(5), 0);
        x.wants(5, 0);
        e.is(x.lacks(5), 0);
        e.is(x.lacks(4), 0);
    }

    private void firstLack() {
        e.sentence(0, "FIRST LACK: the first MONTH that LACKS any");
        AwakeTurns x = Ships.of("a;s19;s29");
        e.is(x.wrong(0), NONE);
        for (int m = 11; m >= 0; m--) {
            x.wants(m, 1);
            e.is(x.wrong(0), m);
        }
        for (int m = 0; m < 12; m++) {
            e.is(x.wrong(0), m);
            x.up(1, m, true);
            e.is(x.wrong(0), m);
            x.up(0, m, true);
        }
        e.is(x.wrong(0), NONE);
    }

    private void firstSpent() {
        e.sentence(0, "FIRST SPENT: the first MONTH in which one's HARM by then is above what it BEARS");
        for (int bears = 1; bears <= 9; bears++) {
            for (int kind = 0; kind < 3; kind++) {
                AwakeTurns x = Ships.of("a;s01;" + "sfo".charAt(kind) + "0" + bears);
                Ships.turns(x, 2, 0, 2, 0, 2, 0, 2, 0, 2, 0, 2, 0);
                int month = 2 * (bears / (1 << kind));
                e.is(x.wrong(1), month < 12 ? month : NONE);
                e.is(x.wrong(2), month < 12 ? 1 : NONE);
                e.is(x.wrong(0), NONE);
            }
        }
        AwakeTurns last = Ships.of("a;s01;s01");
        Ships.turns(last, 1, 0, 0, 0, 0, 0, 0, 0, 0, 0, 0, 1);
        e.is(last.wrong(1), 11);
    }

    private void whoIsSpent() {
        e.sentence(0, "who: of several the least number");
        AwakeTurns x = Ships.of("a;s09;s01;s01;o01");
        Ships.turns(x, 6, 0, 6, 8);
        e.is(x.wrong(1), 2);
        e.is(x.wrong(2), 1);
        Ships.turns(x, 14, 0, 6);
        e.is(x.wrong(1), 0);
        e.is(x.wrong(2), 3);
        Ships.turns(x, 4, 0, 4, 0, 2, 0, 2);
        e.is(x.wrong(1), 2);
        e.is(x.wrong(2), 2);
    }

    private void coverOfAMonth() {
        e.sentence(0, "COVER of a MONTH: the fewest SLEEPERS who together have all SKILLS that it WANTS, by the TEXT: as a"
            + " set: of several the least; NONE: not even all");
        AwakeTurns x = Ships.of("a;s19;s29;s39;s49;s79;s69");
        int[] one = {0, 1, 2, 4, 8, 16, 16, 16};
        AwakeTurns y = Ships.of("a;o19;f29;s49;s09");
        int[] several = {0, 1, 2, 3, 4, 5, 6, 7};
        AwakeTurns z = Ships.of("a;s19;s29");
        int[] few = {0, 1, 2, 3, NONE, NONE, NONE, NONE};
        AwakeTurns u = Ships.of("a;s19;s29;s49;s69;s39;s59");
        int[] least = {0, 1, 2, 16, 4, 32, 8, 9};
        for (int skills = 0; skills < 8; skills++) {
            x.wants(11, skills);
            e.is(x.cover(11), one[skills]);
            y.wants(0, skills);
            e.is(y.cover(0), several[skills]);
            z.wants(5, skills);
            e.is(z.cover(5), few[skills]);
            u.wants(5, skills);
            e.is(u.cover(5), least[skills]);
        }
        e.is(x.cover(0), 0);
        AwakeTurns v = Ships.of("a;s19;s29");
        v.law(1);
        Ships.turns(v, 3, 3, 3);
        v.wants(2, 3);
        e.is(v.cover(2), 3);
    }

    private void leastHarm() {
        e.sentence(0, "LEAST HARM: the least HARM to all together by TURNS in which each MONTH's WANTS are met, by the TEXT"
            + " (BEARS does not matter)");
        AwakeTurns x = Ships.of("a;o11;s01");
        e.least(x, 0);
        x.wants(0, 1);
        e.least(x, 4, 1);
        Ships.turns(x, 3, 3, 3);
        x.law(1);
        x.wants(0, 0);
        x.wants(11, 1);
        e.least(x, 4, 0, 0, 0, 0, 0, 0, 0, 0, 0, 0, 0, 1);
        AwakeTurns y = Ships.of("a;s19;s29;s39");
        y.wants(0, 1);
        y.wants(2, 3);
        e.least(y, 1, 4, 4, 4);
        e.sentence(0, "NONE: there are none.");
        for (int m = 0; m < 12; m++) {
            AwakeTurns z = Ships.of("a;s19;s29");
            z.wants(m, 4);
            e.least(z, NONE, NONE, NONE, NONE, NONE, NONE, NONE, NONE, NONE, NONE, NONE, NONE, NONE);
        }
    }

    private void leastTurns() {
        e.sentence(0, "TURNS: of several the first, as a row of sets");
        AwakeTurns x = Ships.of("a;s19;s19");
        x.wants(1, 1);
        e.least(x, 1, 0, 1);
        x.wants(3, 1);
        e.least(x, 1, 0, 1, 1, 1);
        AwakeTurns y = Ships.of("a;s19;s29");
        y.wants(0, 1);
        y.wants(11, 2);
        e.least(y, 2, 1, 0, 0, 0, 0, 0, 0, 0, 0, 0, 0, 2);
        AwakeTurns z = Ships.of("a;s19;s29;f39");
        z.wants(0, 3);
        e.least(z, 2, 3);
        AwakeTurns u = Ships.of("a;f39;s19;s29");
        u.wants(0, 3);
        e.least(u, 2, 1);
        e.least(Ships.dressed(), 5, 0, 0, 8, 12, 12, 12, 8, 8);
        AwakeTurns six = Ships.of("a;o19;o29;f19;f29;s19;s29");
        e.least(six, 0);
        six.wants(0, 3);
        e.least(six, 2, 48);
        six.wants(11, 2);
        e.least(six, 2, 48, 32, 32, 32, 32, 32, 32, 32, 32, 32, 32, 32);
        six.wants(5, 4);
        e.least(six, NONE, NONE, NONE, NONE, NONE, NONE, NONE, NONE, NONE, NONE, NONE, NONE, NONE);
    }

    private void judged() {
        e.sentence(0, "TURNS told: JUDGED: the first MONTH of them in which they LACK anything, by the LAW, or one is SPENT");
        AwakeTurns x = Ships.of("a;s12;s29");
        Ships.row(x, 0, 0, 1, 0, 1, 2, 1, 0, 1, 0);
        for (int n = 0; n <= 8; n++) {
            e.is(x.judge(0, 0, 0, n), n <= 4 ? NONE : 4);
        }
        x.wants(3, 1);
        for (int n = 0; n <= 8; n++) {
            e.is(x.judge(0, 0, 0, n), n <= 3 ? NONE : 3);
        }
        x.wants(3, 0);
        x.wants(5, 1);
        e.is(x.judge(0, 0, 0, 8), 4);
        AwakeTurns y = Ships.of("a;s19;s29");
        Ships.row(y, 0, 0, 3, 2);
        y.wants(1, 1);
        e.is(y.judge(0, 0, 0, 2), 1);
        y.law(1);
        e.is(y.judge(0, 0, 0, 2), NONE);
        y.wants(0, 4);
        e.is(y.judge(0, 0, 0, 2), 0);
    }

    private void tradesRise() {
        e.sentence(0, "TRADES: pairs of SLEEPERS (a below b) who may change their TURNS with one another in all MONTHS, so"
            + " that no MONTH LACKS anything, nobody is SPENT: rising by a, then b");
        AwakeTurns six = Ships.of("a;s19;f19;o19;s09;s09;s09");
        e.trades(six, 1, 2, 3, 4, 5, 12, 13, 14, 15, 23, 24, 25, 34, 35, 45);
        AwakeTurns x = Ships.of("a;s19;s19;s29");
        Ships.turns(x, 1, 0, 0, 0, 0, 0, 0, 0, 0, 0, 0, 1);
        x.wants(0, 1);
        e.trades(x, 1, 12);
        x.wants(0, 0);
        x.wants(11, 1);
        e.trades(x, 1, 12);
        x.wants(5, 1);
        e.trades(x);
        AwakeTurns y = Ships.of("a;s12;s11;s19");
        Ships.turns(y, 1, 0, 1);
        e.trades(y, 2, 12);
        AwakeTurns z = Ships.of("a;s11;s19;s19");
        Ships.turns(z, 1, 0, 0, 0, 0, 0, 0, 0, 0, 0, 0, 1);
        e.trades(z, 1, 2);
        AwakeTurns u = Ships.of("a;s19;s29;s09");
        Ships.turns(u, 5, 4);
        u.wants(1, 1);
        e.trades(u, 2);
        u.law(1);
        e.trades(u, 2, 12);
    }

    private void awake() {
        e.sentence(9, "Who is UP in a MONTH, as a set");
        AwakeTurns x = Ships.dressed();
        for (int m = 0; m < 12; m++) {
            e.is(x.awake(m), Ships.TURNS[m]);
        }
        e.asks(y -> y.awake(0), y -> y.awake(11));
        e.sentence(9, "OUTSIDE");
        for (int m : Edge.NO_MONTHS) {
            e.refuses(OUTSIDE, y -> y.awake(m));
        }
        e.sentence(9, NO_SHIP);
        e.refusesWithoutShip(STATE, y -> y.awake(0), y -> y.awake(11));
    }

    private void harm() {
        e.sentence(10, "HARM to one by the end of a MONTH");
        AwakeTurns x = Ships.dressed();
        int[][] due = {{1, 1, 2, 2, 3, 3, 4, 4, 4, 4, 5, 5}, {2, 2, 2, 2, 2, 4, 4, 4, 4, 6, 6, 6},
            {0, 0, 0, 4, 4, 8, 8, 8, 8, 8, 8, 12}, {0, 0, 1, 1, 1, 1, 1, 1, 2, 2, 2, 2}};
        for (int s = 0; s < 4; s++) {
            for (int m = 0; m < 12; m++) {
                e.is(x.harm(s, m), due[s][m]);
            }
        }
        e.asks(y -> y.harm(2, 11));
        e.sentence(10, "UNKNOWN");
        for (int s : Edge.NO_SLEEPERS) {
            e.refuses(UNKNOWN, y -> y.harm(s, 0));
        }
        e.refusesWithoutShip(UNKNOWN, y -> y.harm(0, 0));
        e.sentence(10, "OUTSIDE");
        for (int m : Edge.NO_MONTHS) {
            e.refuses(OUTSIDE, y -> y.harm(0, m), y -> y.harm(3, m));
        }
    }

    private void skills() {
        e.sentence(11, "KNOWLEDGE of one in a MONTH, as a set");
        AwakeTurns x = Ships.dressed();
        int[][] due = {{1, 3, 3, 3, 3, 3, 3, 3, 3, 3, 3, 3}, {2, 3, 3, 3, 3, 3, 7, 7, 7, 7, 7, 7},
            {4, 4, 4, 4, 7, 7, 7, 7, 7, 7, 7, 7}, {3, 3, 3, 3, 7, 7, 7, 7, 7, 7, 7, 7}};
        for (int s = 0; s < 4; s++) {
            for (int m = 0; m < 12; m++) {
                e.is(x.skills(s, m), due[s][m]);
            }
        }
        e.asks(y -> y.skills(2, 11));
        e.sentence(11, "UNKNOWN");
        for (int s : Edge.NO_SLEEPERS) {
            e.refuses(UNKNOWN, y -> y.skills(s, 0));
        }
        e.refusesWithoutShip(UNKNOWN, y -> y.skills(0, 0));
        e.sentence(11, "OUTSIDE");
        for (int m : Edge.NO_MONTHS) {
            e.refuses(OUTSIDE, y -> y.skills(0, m), y -> y.skills(3, m));
        }
    }

    private void lacks() {
        e.sentence(12, "LACKS, as a set");
        AwakeTurns x = Ships.dressed();
        int[] due = {0, 0, 0, 0, 0, 0, 0, 1, 0, 0, 0, 0};
        for (int m = 0; m < 12; m++) {
            e.is(x.lacks(m), due[m]);
        }
        e.asks(y -> y.lacks(7), y -> y.lacks(11));
        e.sentence(12, "OUTSIDE");
        for (int m : Edge.NO_MONTHS) {
            e.refuses(OUTSIDE, y -> y.lacks(m));
        }
        e.sentence(12, NO_SHIP);
        e.refusesWithoutShip(STATE, y -> y.lacks(0), y -> y.lacks(11));
    }

    private void wrong() {
        e.sentence(13, "FIRST LACK (what 0), FIRST SPENT (1), who it is (2); NONE");
        AwakeTurns x = Ships.dressed();
        e.is(x.wrong(0), 7);
        e.is(x.wrong(1), 11);
        e.is(x.wrong(2), 2);
        AwakeTurns well = Ships.of("a;s11;s11");
        Ships.turns(well, 3, 3, 3, 3, 3, 3, 3, 3, 3, 3, 3, 3);
        for (int what = 0; what < 3; what++) {
            e.is(well.wrong(what), NONE);
        }
        e.asks(y -> y.wrong(0), y -> y.wrong(1), y -> y.wrong(2));
        e.sentence(13, "OUTSIDE");
        e.refuses(OUTSIDE, y -> y.wrong(-1), y -> y.wrong(3), y -> y.wrong(FAR), y -> y.wrong(FAR_BELOW));
        e.sentence(13, NO_SHIP);
        e.refusesWithoutShip(STATE, y -> y.wrong(0), y -> y.wrong(1), y -> y.wrong(2));
    }

    private void cover() {
        e.sentence(14, "COVER, as a set; NONE");
        AwakeTurns x = Ships.dressed();
        int[] due = {0, 0, 8, 6, 0, 4, 0, 1, 0, 0, 0, 0};
        for (int m = 0; m < 12; m++) {
            e.is(x.cover(m), due[m]);
        }
        AwakeTurns none = Ships.of("a;s09;s09");
        none.wants(11, 4);
        e.is(none.cover(11), NONE);
        e.is(none.cover(10), 0);
        e.asks(y -> y.cover(3));
        e.sentence(14, "OUTSIDE");
        for (int m : Edge.NO_MONTHS) {
            e.refuses(OUTSIDE, y -> y.cover(m));
        }
        e.sentence(14, NO_SHIP);
        e.refusesWithoutShip(STATE, y -> y.cover(0), y -> y.cover(11));
    }

    private void least() {
        e.sentence(15, "LEAST HARM (month -1), who is UP so in a MONTH, as a set; NONE");
        AwakeTurns x = Ships.dressed();
        e.least(x, 5, 0, 0, 8, 12, 12, 12, 8, 8);
        AwakeTurns none = Ships.of("a;s09;s09");
        none.wants(11, 4);
        e.is(none.least(-1), NONE);
        e.is(none.least(0), NONE);
        e.is(none.least(11), NONE);
        e.asks(y -> y.least(-1), y -> y.least(0), y -> y.least(11));
        e.sentence(15, "OUTSIDE: month");
        e.refuses(OUTSIDE, y -> y.least(-2), y -> y.least(12), y -> y.least(FAR), y -> y.least(FAR_BELOW), y -> y.least(NONE));
        e.sentence(15, NO_SHIP);
        e.refusesWithoutShip(STATE, y -> y.least(-1), y -> y.least(0), y -> y.least(11));
    }

    private void judge() {
        e.sentence(16, "TURNS of MONTHS 0 .. n less 1 by such cells: JUDGED");
        for (int lane = 0; lane < 3; lane++) {
            AwakeTurns x = Ships.of("a;s11;s29");
            for (int m = 0; m < 12; m++) {
                x.wants(m, 1);
            }
            Ships.row(x, lane, lane, 0, 1, 1, 1, 1, 1, 1, 1, 1, 1, 1, 1, 1, 2);
            e.is(x.judge(lane, lane, 0, 12), 0);
            e.is(x.judge(lane, lane, 1, 12), NONE);
            e.is(x.judge(lane, lane, 2, 12), 11);
            e.is(x.judge(lane, lane, 3, 11), 10);
            e.is(x.judge(lane, lane, 13, 1), 0);
            e.is(x.awake(0), 0);
        }
        e.keepsAll(3, x -> x.judge(2, 2, 0, 6), x -> x.judge(2, 2, 0, 4));
        e.sentence(16, "NONE: all may be");
        e.keepsAll(NONE, x -> x.judge(2, 2, 0, 3), x -> x.judge(2, 2, 0, 1), x -> x.judge(2, 2, 0, 0), x -> x.judge(0, 0, 17, 0));
    }

    private void judgeRefused() {
        e.sentence(16, "UNKNOWN: SHEET");
        for (int k : Edge.NO_SHEETS) {
            e.declines(UNKNOWN, x -> x.judge(k, 2, 0, 1));
        }
        e.sentence(16, "OUTSIDE: lane");
        for (int lane : Edge.NO_LANES) {
            e.declines(OUTSIDE, x -> x.judge(2, lane, 0, 1));
        }
        e.sentence(16, NO_SHIP);
        e.declinesWithoutShip(STATE, x -> x.judge(2, 2, 0, 1), x -> x.judge(2, 2, 0, 0), x -> x.judge(3, 2, 0, 1));
        e.sentence(16, "CAST");
        e.fails(Edge.CAST, x -> x.judge(2, 0, 0, 1), x -> x.judge(2, 1, 0, 1), x -> x.judge(0, 2, 0, 1), x -> x.judge(1, 0, 0, 0));
        e.sentence(16, "NULL");
        e.fails(Edge.NULL, x -> x.judge(3, 0, 0, 1), x -> x.judge(3, 2, 0, 0), x -> x.judge(3, 1, 0, 13));
        e.sentence(16, "SIZE");
        e.fails(Edge.SIZE, x -> x.judge(2, 2, 0, -1), x -> x.judge(2, 2, 14, -1), x -> x.judge(2, 2, 0, FAR_BELOW));
        e.sentence(16, "INDEX");
        e.fails(Edge.INDEX, x -> x.judge(2, 2, -1, 1), x -> x.judge(2, 2, 14, 1), x -> x.judge(2, 2, 3, 12), x -> x.judge(2, 2, 0, 15),
            x -> x.judge(2, 2, 15, 0), x -> x.judge(2, 2, 0, FAR));
    }

    private void judgeCells() {
        e.sentence(16, "OUTSIDE: n above 12, a cell has a bit of no SLEEPER");
        e.declines(OUTSIDE, x -> x.judge(2, 2, 0, 13), x -> x.judge(2, 2, 0, 14), x -> x.judge(2, 2, 1, 13), x -> x.judge(0, 0, 0, 17));
        e.declines(OUTSIDE, x -> x.judge(2, 2, 6, 1), x -> x.judge(2, 2, 7, 1), x -> x.judge(2, 2, 8, 1), x -> x.judge(2, 2, 0, 7));
        String text = "a;s11;s11;s11;s11;s11;s11";
        for (int count = 2; count <= 6; count++) {
            AwakeTurns x = Ships.of(text.substring(0, 1 + 4 * count));
            int all = (1 << count) - 1;
            Ships.row(x, 0, 2, all, all + 1, -1, FAR_BELOW, all | 1 << 16, all | 1 << 30, 256);
            e.is(x.judge(0, 2, 0, 1), NONE);
            for (int i = 1; i < 7; i++) {
                e.is(x.judge(0, 2, i, 1), OUTSIDE);
            }
            Ships.row(x, 1, 0, all, -128, 0, 0, 0, 0, 0, 0, 0, 0, 0, 0, 0);
            e.is(x.judge(1, 0, 0, 1), NONE);
            e.is(x.judge(1, 0, 0, 2), OUTSIDE);
            e.is(x.judge(1, 0, 0, 12), OUTSIDE);
            x.put(1, 1, all);
            e.is(x.judge(1, 0, 0, 12), NONE);
            e.is(x.judge(1, 0, 0, 13), OUTSIDE);
            x.put(1, 12, all + 1);
            e.is(x.judge(1, 0, 0, 12), NONE);
            e.is(x.judge(1, 0, 1, 12), OUTSIDE);
            x.wants(0, 2);
            e.is(x.judge(1, 0, 0, 12), 0);
            e.is(x.judge(1, 0, 1, 12), OUTSIDE);
        }
    }

    private void trades() {
        e.sentence(17, "TRADES: how many (k -1), the k-th: 10 times a, and b");
        AwakeTurns x = Ships.of("a;s19;s19;s29;s39;s79;s09");
        Ships.turns(x, 16, 16);
        x.wants(1, 3);
        e.trades(x, 1, 2, 3, 5, 12, 13, 15, 23, 25, 34, 35);
        e.asks(y -> y.trades(-1), y -> y.trades(0), y -> y.trades(FAR));
        e.sentence(17, "NONE: there are fewer");
        e.is(x.trades(11), NONE);
        e.is(x.trades(FAR), NONE);
        x.wants(0, 4);
        x.wants(11, 1);
        e.is(x.trades(-1), 0);
        e.is(x.trades(0), NONE);
        e.sentence(17, "UNKNOWN: k below -1");
        e.refuses(UNKNOWN, y -> y.trades(-2), y -> y.trades(FAR_BELOW));
        e.refusesWithoutShip(UNKNOWN, y -> y.trades(-2));
        e.sentence(17, NO_SHIP);
        e.refusesWithoutShip(STATE, y -> y.trades(-1), y -> y.trades(0), y -> y.trades(FAR));
    }
}
