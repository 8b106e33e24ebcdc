/** News by mouth and by notes, who knew what; and promises 18 to 23. */
final class EdgesOfNews {
    private static final int UNKNOWN = AwakeTurns.UNKNOWN, OUTSIDE = AwakeTurns.OUTSIDE, STATE = AwakeTurns.STATE;
    private static final int NONE = AwakeTurns.NONE, FAR = Edge.FAR, FAR_BELOW = Edge.FAR_BELOW;
    private static final String NOTES = "first who is UP reads NOTES: of any pair (a, b) of NOTES of which a was UP in a MONTH ahead"
        + " and knew it as that one ended, b knows it now";
    private static final String FOUR = "a;s11;s11;s11;s11";
    private final Edge e;

    EdgesOfNews(Edge e) {
        this.e = e;
    }

    void run() {
        knownFromAMonthOn();
        notAheadOfIt();
        notes();
        notesThatAreNotRead();
        notesOfAnyPair();
        byMouth();
        firstMonthOfKnowing();
        keptFromWhom();
        readingsAtMost();
        readingsAsAMonthEnded();
        whoBegan();
        whoWasWoken();
        wokenAsItIs();
        knows();
        kept();
        reading();
        back();
        began();
        woken();
    }

    private static AwakeTurns four(int... sets) {
        AwakeTurns x = Ships.of(FOUR);
        Ships.turns(x, sets);
        return x;
    }

    private void knownFromAMonthOn() {
        e.sentence(0, "NEWS: one knows it from a MONTH on (whether it is UP or not)");
        AwakeTurns cold = four();
        AwakeTurns warm = four(15, 15, 15, 15, 15, 15, 15, 15, 15, 15, 15, 15);
        for (int since = 0; since < 12; since++) {
            for (int s = 0; s < 4; s++) {
                e.is(cold.knows(s, since, s), since);
                e.is(cold.knows(s, since, (s + 1) % 4), NONE);
                e.is(warm.knows(s, since, s), since);
                e.is(warm.knows(s, since, (s + 1) % 4), since);
            }
        }
    }

    private void notAheadOfIt() {
        e.sentence(0, "In each MONTH, from that one on");
        AwakeTurns x = four(3, 0, 0, 0, 0, 0, 0, 0, 0, 0, 0, 3);
        e.is(x.knows(0, 0, 1), 0);
        for (int since = 1; since < 12; since++) {
            e.is(x.knows(0, since, 1), 11);
        }
        x.up(1, 11, false);
        e.is(x.knows(0, 0, 1), 0);
        e.is(x.knows(0, 1, 1), NONE);
    }

    private void noteIsRead(int month, int since, int... sets) {
        AwakeTurns x = four(sets);
        x.note(0, 1);
        e.is(x.knows(0, since, 1), month);
    }

    private void notes() {
        e.sentence(0, NOTES);
        noteIsRead(1, 0, 1, 2);
        noteIsRead(11, 0, 1, 0, 0, 0, 0, 0, 0, 0, 0, 0, 0, 2);
        noteIsRead(11, 10, 0, 0, 0, 0, 0, 0, 0, 0, 0, 0, 1, 2);
        noteIsRead(2, 1, 0, 1, 2);
        noteIsRead(3, 0, 2, 1, 0, 2);
        noteIsRead(4, 0, 0, 0, 2, 1, 2);
        AwakeTurns learnt = four(3, 4);
        learnt.note(1, 2);
        e.is(learnt.knows(0, 0, 2), 1);
        AwakeTurns chain = four(1, 2, 4, 8);
        chain.note(0, 1);
        chain.note(1, 2);
        chain.note(2, 3);
        for (int s = 0; s < 4; s++) {
            e.is(chain.knows(0, 0, s), s);
        }
        Ships.turns(chain, 1, 2, 0, 0, 0, 0, 0, 0, 0, 0, 4, 8);
        e.is(chain.knows(0, 0, 2), 10);
        e.is(chain.knows(0, 0, 3), 11);
    }

    private void notesThatAreNotRead() {
        // Where one of its conditions fails.
        e.sentence(0, NOTES);
        noteIsRead(NONE, 0, 2, 1);
        noteIsRead(NONE, 1, 1, 2);
        noteIsRead(NONE, 0, 0, 2, 2);
        noteIsRead(NONE, 0, 1, 4);
        noteIsRead(NONE, 0, 1);
        noteIsRead(NONE, 11, 1, 2, 1, 2, 1, 2, 1, 2, 1, 2, 1, 2);
        AwakeTurns oneWay = four(2, 1);
        oneWay.note(0, 1);
        e.is(oneWay.knows(1, 0, 0), NONE);
        AwakeTurns wrongOrder = four(1, 4, 2);
        wrongOrder.note(0, 1);
        wrongOrder.note(1, 2);
        e.is(wrongOrder.knows(0, 0, 1), 2);
        e.is(wrongOrder.knows(0, 0, 2), NONE);
        AwakeTurns unknowing = four(2, 4, 1);
        unknowing.note(1, 2);
        e.is(unknowing.knows(0, 0, 2), NONE);
    }

    private void notesOfAnyPair() {
        // Each of the eight notes counts, and only while it is not torn.
        e.sentence(0, NOTES);
        AwakeTurns x = four(1, 2, 4, 8);
        for (int k = 0; k < 7; k++) {
            x.note(3, 2);
        }
        e.is(x.kept(0, 0), 14);
        x.note(0, 3);
        e.is(x.knows(0, 0, 3), 3);
        e.is(x.kept(0, 0), 6);
        x.tear(1);
        e.is(x.kept(0, 0), 14);
    }

    private void byMouth() {
        e.sentence(0, "then, if any who is UP knows it, all who are UP do");
        AwakeTurns x = four(1, 14);
        e.is(x.kept(0, 0), 14);
        x.note(0, 2);
        e.is(x.kept(0, 0), 0);
        e.is(x.knows(0, 0, 1), 1);
        e.is(x.knows(0, 0, 3), 1);
        AwakeTurns y = four(3, 6, 12);
        for (int s = 0; s < 4; s++) {
            e.is(y.knows(0, 0, s), Math.max(0, s - 1));
            e.is(y.knows(3, 0, s), new int[] {NONE, NONE, 2, 0}[s]);
        }
        AwakeTurns z = four(6, 9);
        e.is(z.kept(0, 0), 6);
        e.is(z.kept(1, 0), 9);
    }

    private void firstMonthOfKnowing() {
        e.sentence(0, "KNOWS: the first MONTH in which one does");
        for (int m = 0; m < 12; m++) {
            AwakeTurns x = four();
            for (int later = m; later < 12; later++) {
                x.up(0, later, true);
                x.up(2, later, true);
            }
            e.is(x.knows(0, 0, 2), m);
            e.is(x.knows(0, 11, 2), 11);
            e.is(x.knows(0, 0, 1), NONE);
        }
    }

    private void keptFromWhom() {
        e.sentence(0, "KEPT: those who never know it");
        AwakeTurns x = four(0, 0, 0, 0, 0, 0, 0, 0, 0, 0, 0, 5);
        for (int since = 0; since < 12; since++) {
            e.is(x.kept(0, since), 10);
            e.is(x.kept(1, since), 13);
        }
        Ships.turns(x, 15);
        e.is(x.kept(0, 0), 0);
        e.is(x.kept(0, 1), 14);
    }

    private void readingsAtMost() {
        e.sentence(0, "READINGS, 8 at most, numbered by how many there are");
        AwakeTurns x = four();
        for (int k = 0; k < 8; k++) {
            e.is(x.reading(k % 4, k, true), k);
        }
        e.is(x.reading(0, 0, true), AwakeTurns.FULL);
        e.is(x.many(2), 8);
        e.is(x.back(3), 5);
        for (int k = 5; k < 8; k++) {
            e.is(x.reading(0, 0, true), k);
        }
        e.is(x.reading(0, 0, true), AwakeTurns.FULL);
    }

    private void readingsAsAMonthEnded() {
        e.sentence(0, "as a MONTH ended one knew it, or did not");
        AwakeTurns x = four(0, 0, 0, 0, 0, 3);
        for (int m = 0; m < 12; m++) {
            x.reading(1, m, true);
            e.is(x.began(0), m < 5 ? 2 : 3);
            x.back(1);
            x.reading(1, m, false);
            e.is(x.began(0), m < 5 ? 13 : 12);
            x.back(1);
        }
    }

    private void whoBegan() {
        e.sentence(0, "BEGAN in a MONTH: SLEEPERS from whom NEWS, from that MONTH on, makes all READINGS so, as a set");
        AwakeTurns x = four(3, 0, 6, 0, 12, 0, 0, 0, 0, 0, 0, 9);
        for (int m = 0; m < 12; m++) {
            e.is(x.began(m), 15);
        }
        x.reading(2, 2, true);
        int[] due = {7, 6, 6, 0};
        for (int m = 0; m < 12; m++) {
            e.is(x.began(m), m < 3 ? due[m] : 0);
        }
        x.reading(0, 11, false);
        e.is(x.began(0), 0);
        x.back(2);
        x.reading(0, 10, false);
        x.reading(3, 11, true);
        e.is(x.began(11), 9);
        e.is(x.began(10), 8);
        e.is(x.began(2), 14);
        for (int k = 2; k < 7; k++) {
            x.reading(3, 11, true);
        }
        e.is(x.began(2), 14);
        x.reading(1, 0, true);
        e.is(x.began(0), 0);
        e.is(x.began(2), 0);
    }

    private void whoWasWoken() {
        e.sentence(0, "WOKEN in a MONTH: SLEEPERS by whom, had it been UP, too, in that MONTH (each alone), NEWS of one, from"
            + " a told MONTH on, makes all READINGS so, as a set");
        AwakeTurns x = four(1, 2, 4);
        e.is(x.woken(0, 0, 0), 15);
        x.reading(2, 11, true);
        int[] due = {4, 0, 1, 0, 0, 0, 0, 0, 0, 0, 0, 0};
        for (int m = 0; m < 12; m++) {
            e.is(x.woken(0, 0, m), due[m]);
        }
        e.is(x.woken(0, 1, 0), 0);
        e.is(x.woken(0, 2, 2), 1);
        e.is(x.woken(0, 3, 2), 0);
        e.is(x.woken(2, 11, 0), 15);
        x.note(0, 2);
        e.is(x.woken(0, 0, 5), 15);
        e.is(x.woken(0, 1, 1), 1);
        e.is(x.woken(0, 1, 3), 0);
        // The turns of all other months are those of the ship, the last one's too.
        AwakeTurns last = four(0, 0, 0, 0, 0, 0, 0, 0, 0, 0, 0, 5);
        last.reading(2, 11, true);
        for (int m = 0; m < 12; m++) {
            e.is(last.woken(0, 0, m), 15);
        }
        // Each alone: 1 and 2 would be needed both.
        AwakeTurns both = four(1);
        both.reading(1, 11, true);
        both.reading(2, 11, true);
        e.is(both.woken(0, 0, 0), 0);
        both.back(1);
        e.is(both.woken(0, 0, 0), 2);
        AwakeTurns y = four(1, 2, 8, 4);
        y.note(1, 3);
        y.note(3, 2);
        y.reading(2, 3, true);
        e.is(y.woken(0, 0, 0), 14);
        y.tear(2);
        e.is(y.woken(0, 0, 0), 4);
        e.is(y.awake(0), 1);
    }

    private void wokenAsItIs() {
        e.sentence(0, "(one that was UP: as it is)");
        AwakeTurns x = four(1, 2, 4);
        x.reading(2, 11, false);
        e.is(x.woken(0, 0, 0), 11);
        e.is(x.woken(0, 0, 2), 14);
        e.is(x.woken(0, 1, 0), 15);
        Ships.turns(x, 15);
        e.is(x.woken(0, 0, 0), 0);
        e.is(x.woken(0, 1, 0), 15);
    }

    private void knows() {
        e.sentence(18, "KNOWS: NEWS of one from a MONTH on");
        AwakeTurns x = Ships.dressed();
        int[][] due = {{1, 5, 3, 2}, {6, 1, 5, NONE}, {6, 5, 1, 3}, {2, 5, 3, 1}};
        for (int from = 0; from < 4; from++) {
            for (int to = 0; to < 4; to++) {
                e.is(x.knows(from, 1, to), due[from][to]);
            }
        }
        e.asks(y -> y.knows(0, 0, 3), y -> y.knows(3, 11, 3));
        e.sentence(18, "NONE: never");
        e.is(x.knows(1, 10, 3), NONE);
        e.is(x.knows(3, 11, 0), NONE);
        e.sentence(18, "UNKNOWN: SLEEPERS");
        for (int s : Edge.NO_SLEEPERS) {
            e.refuses(UNKNOWN, y -> y.knows(s, 0, 0), y -> y.knows(0, 0, s), y -> y.knows(s, 0, s));
        }
        e.refusesWithoutShip(UNKNOWN, y -> y.knows(0, 0, 0));
        e.sentence(18, "OUTSIDE: since");
        for (int m : Edge.NO_MONTHS) {
            e.refuses(OUTSIDE, y -> y.knows(0, m, 0), y -> y.knows(3, m, 2));
        }
    }

    private void kept() {
        e.sentence(19, "KEPT, as a set");
        AwakeTurns x = Ships.dressed();
        int[] due = {0, 8, 0, 0};
        for (int from = 0; from < 4; from++) {
            e.is(x.kept(from, 1), due[from]);
            e.is(x.kept(from, 11), 15 - (1 << from));
        }
        e.asks(y -> y.kept(0, 0), y -> y.kept(3, 11));
        e.sentence(19, "UNKNOWN");
        for (int s : Edge.NO_SLEEPERS) {
            e.refuses(UNKNOWN, y -> y.kept(s, 0));
        }
        e.refusesWithoutShip(UNKNOWN, y -> y.kept(0, 0));
        e.sentence(19, "OUTSIDE: since");
        for (int m : Edge.NO_MONTHS) {
            e.refuses(OUTSIDE, y -> y.kept(0, m), y -> y.kept(3, m));
        }
    }

    private void reading() {
        e.sentence(20, "A READING: its number");
        AwakeTurns x = four();
        e.is(x.reading(3, 0, true), 0);
        e.is(x.reading(0, 11, false), 1);
        e.is(x.reading(0, 11, false), 2);
        e.is(x.many(2), 3);
        e.is(x.began(0), 8);
        e.sentence(20, "UNKNOWN: SLEEPER");
        for (int s : Edge.NO_SLEEPERS) {
            e.refuses(UNKNOWN, y -> y.reading(s, 0, true), y -> y.reading(s, 11, false));
        }
        e.refusesWithoutShip(UNKNOWN, y -> y.reading(0, 0, true));
        e.sentence(20, "OUTSIDE: month");
        for (int m : Edge.NO_MONTHS) {
            e.refuses(OUTSIDE, y -> y.reading(0, m, true), y -> y.reading(3, m, false));
        }
        e.sentence(20, "FULL");
        e.refusesWhenFull(AwakeTurns.FULL, y -> y.reading(0, 0, true), y -> y.reading(3, 11, false));
    }

    private void back() {
        e.sentence(21, "The last k READINGS (0 .. as many as there are) are taken back: how many are left");
        for (int k = 0; k <= 8; k++) {
            AwakeTurns x = Ships.full();
            e.is(x.back(k), 8 - k);
            e.is(x.many(2), 8 - k);
            e.is(x.back(0), 8 - k);
            e.is(x.back(9 - k), OUTSIDE);
            e.is(x.back(8 - k), 0);
            e.is(x.back(0), 0);
            e.is(x.back(1), OUTSIDE);
        }
        AwakeTurns x = four();
        x.reading(1, 0, true);
        x.reading(2, 0, true);
        e.is(x.began(0), 0);
        e.is(x.back(1), 1);
        e.is(x.began(0), 2);
        e.is(new AwakeTurns().back(0), 0);
        e.sentence(21, "OUTSIDE");
        e.refuses(OUTSIDE, y -> y.back(-1), y -> y.back(3), y -> y.back(FAR), y -> y.back(FAR_BELOW));
        e.refusesWhenFull(OUTSIDE, y -> y.back(-1), y -> y.back(9));
        e.refusesWithoutShip(OUTSIDE, y -> y.back(1), y -> y.back(-1));
    }

    private void began() {
        e.sentence(22, "BEGAN, as a set");
        AwakeTurns x = Ships.dressed();
        e.is(x.began(1), 6);
        e.is(x.began(6), 1);
        e.is(x.began(11), 0);
        e.asks(y -> y.began(0), y -> y.began(11));
        e.sentence(22, "OUTSIDE");
        for (int m : Edge.NO_MONTHS) {
            e.refuses(OUTSIDE, y -> y.began(m));
        }
        e.sentence(22, "STATE: there is no SHIP");
        e.refusesWithoutShip(STATE, y -> y.began(0), y -> y.began(11));
    }

    private void woken() {
        e.sentence(23, "WOKEN, as a set: NEWS of one since a MONTH");
        AwakeTurns x = Ships.dressed();
        e.is(x.woken(1, 1, 0), 15);
        e.is(x.woken(1, 1, 5), 14);
        e.is(x.woken(0, 0, 0), 0);
        e.is(x.woken(0, 6, 0), 15);
        e.asks(y -> y.woken(1, 1, 5), y -> y.woken(0, 11, 0), y -> y.woken(3, 0, 11));
        e.sentence(23, "UNKNOWN: SLEEPER");
        for (int s : Edge.NO_SLEEPERS) {
            e.refuses(UNKNOWN, y -> y.woken(s, 0, 0));
        }
        e.refusesWithoutShip(UNKNOWN, y -> y.woken(0, 0, 0));
        e.sentence(23, "OUTSIDE: since, month");
        for (int m : Edge.NO_MONTHS) {
            e.refuses(OUTSIDE, y -> y.woken(0, m, 0), y -> y.woken(3, 0, m), y -> y.woken(0, m, m));
        }
    }
}
