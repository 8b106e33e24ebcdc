import java.util.ArrayList;
import java.util.List;

/** Ships and sheets to try calls on, and a look at all that a call may have changed. */
final class Ships {
    /** What the dressed ship is told by; it lies on its sheet 0, as bytes. */
    static final String TEXT = "a;s15;f29;o49;s33";
    static final int[] TURNS = {3, 0, 9, 12, 1, 6, 1, 0, 8, 2, 1, 4};
    static final int[] SHORTS = {5, -300, 32767};
    static final int[] INTS = {3, 2, 1, 1, 9, 15, 16, -1, 70000, 0, 0, 0, 0, 0};

    private Ships() {
    }

    private static void must(long got, long want) {
        if (got != want) {
            throw new IllegalStateException("a ship could not be dressed: " + got + " instead of " + want);
        }
    }

    /** Puts a text on a new sheet of 60 cells of a lane, from a place on. */
    static void write(AwakeTurns x, int k, int lane, int i, String text) {
        must(x.sheet(k, lane, 60), 1);
        for (int c = 0; c < text.length(); c++) {
            must(x.put(k, i + c, text.charAt(c)), 1);
        }
    }

    static void row(AwakeTurns x, int k, int lane, int... cells) {
        must(x.sheet(k, lane, cells.length), 1);
        for (int i = 0; i < cells.length; i++) {
            must(x.put(k, i, cells[i]), 1);
        }
    }

    /** By sheet 3. */
    static int board(AwakeTurns x, String text) {
        write(x, 3, 0, 0, text);
        return x.ship(3, 0, 0, text.length());
    }

    static AwakeTurns of(String text) {
        AwakeTurns x = new AwakeTurns();
        must(board(x, text), text.length() / 4);
        return x;
    }

    /** The turns, a set for each month from 0 on. */
    static void turns(AwakeTurns x, int... sets) {
        int count = x.many(0);
        for (int m = 0; m < 12; m++) {
            for (int s = 0; s < count; s++) {
                x.up(s, m, m < sets.length && (sets[m] >> s & 1) == 1);
            }
        }
    }

    /** Sheets 0 (17 bytes), 1 (3 shorts) and 2 (14 ints) have a row; sheet 3 has nothing. */
    static AwakeTurns noShip() {
        AwakeTurns x = new AwakeTurns();
        row(x, 0, 0, TEXT.chars().toArray());
        row(x, 1, 1, SHORTS);
        row(x, 2, 2, INTS);
        return x;
    }

    /** Four sleepers, some of everything. */
    static AwakeTurns dressed() {
        AwakeTurns x = noShip();
        must(x.ship(0, 0, 0, 17), 4);
        for (int m = 0; m < 12; m++) {
            for (int s = 0; s < 4; s++) {
                if ((TURNS[m] >> s & 1) == 1) {
                    must(x.up(s, m, true), 1);
                }
            }
        }
        must(x.wants(2, 3), 0);
        must(x.wants(3, 6), 0);
        must(x.wants(5, 4), 0);
        must(x.wants(7, 1), 0);
        must(x.law(1), 0);
        must(x.note(1, 0), 0);
        must(x.note(0, 2), 1);
        must(x.note(3, 1), 2);
        must(x.reading(0, 6, true), 0);
        must(x.reading(0, 5, false), 1);
        must(x.tell(1), 109);
        return x;
    }

    /** Eight notes and eight readings. */
    static AwakeTurns full() {
        AwakeTurns x = dressed();
        for (int k = 3; k < 8; k++) {
            must(x.note(k % 4, (k + 1) % 4), k);
        }
        for (int k = 2; k < 8; k++) {
            must(x.reading(k % 4, 11, true), k);
        }
        return x;
    }

    /** All that can be asked of an object, but for its fault; the asking uses the object up. */
    static List<Long> told(AwakeTurns x) {
        List<Long> all = new ArrayList<>();
        for (int what = 0; what < 4; what++) {
            all.add((long) x.many(what));
        }
        all.add((long) x.trace());
        for (int s = 0; s < 4; s++) {
            for (int k = 0; k < 4; k++) {
                all.add((long) x.ofSleeper(s, k));
                all.add((long) x.knows(s, 0, k));
            }
        }
        for (int m = 0; m < 12; m++) {
            all.add((long) x.awake(m));
            all.add((long) x.lacks(m));
            all.add((long) x.began(m));
            all.add((long) x.wants(m, 0));
        }
        toldFromBehind(x, all);
        toldOfSheets(x, all);
        return all;
    }

    /** What each reading and each note was can be seen as it is taken away. */
    private static void toldFromBehind(AwakeTurns x, List<Long> all) {
        for (int k = 0; k < 8; k++) {
            all.add((long) x.back(1));
            all.add((long) x.began(1));
            all.add((long) x.tear(1));
            all.add((long) x.kept(1, 1));
        }
    }

    private static void toldOfSheets(AwakeTurns x, List<Long> all) {
        for (int k = 0; k < 4; k++) {
            for (int lane = 0; lane < 3; lane++) {
                all.add(x.cell(k, 0, lane));
                int fault = x.fault();
                all.add((long) fault);
                for (int i = 1; i < 19 && fault == 0; i++) {
                    all.add(x.cell(k, i, lane));
                }
            }
        }
    }
}
