import java.util.ArrayList;
import java.util.Arrays;
import java.util.List;

/**
 * The document once more, as slowly and plainly as it can be said: every answer is reckoned anew from its definition.
 * It shares no code and no way of holding the state with the class that it is compared with.
 */
final class PlainModel {
    static final int UNKNOWN = -1, OUTSIDE = -2, STATE = -3, FULL = -4, NONE = -9;
    static final long LOST = Long.MIN_VALUE;

    private final Object[] rows = new Object[4];
    private String text = "";
    private boolean[][] isUp = new boolean[12][6];
    private int[] wanted = new int[12];
    private int lawNow = 0;
    private final List<int[]> notes = new ArrayList<>();
    private final List<int[]> readings = new ArrayList<>();
    private int traceNow = 0;
    private int faultNow = 0;

    // what the text says

    private int count() {
        return text.length() / 4;
    }

    private int kind(int s) {
        return "sfo".indexOf(text.charAt(4 * s + 2));
    }

    private int textSkills(int s) {
        return text.charAt(4 * s + 3) - '0';
    }

    private int bears(int s) {
        return text.charAt(4 * s + 4) - '0';
    }

    private int harmOnce(int s) {
        return new int[] {1, 2, 4}[kind(s)];
    }

    private boolean isSleeper(int s) {
        return 0 <= s && s < count();
    }

    private static boolean isMonth(int m) {
        return 0 <= m && m <= 11;
    }

    private int refuse(int answer) {
        faultNow = 0;
        return answer;
    }

    private int fail(int fault) {
        faultNow = fault;
        return -10 - fault;
    }

    // rows: real ones

    private static int laneOf(Object row) {
        return row instanceof byte[] ? 0 : row instanceof short[] ? 1 : row instanceof int[] ? 2 : -1;
    }

    private static int lengthOf(Object row) {
        return row == null ? 0 : java.lang.reflect.Array.getLength(row);
    }

    private static int at(Object row, int i) {
        return java.lang.reflect.Array.getInt(row, i);
    }

    private static int takeFault(Object row, int lane, long i, long n) {
        if (row != null && laneOf(row) != lane) {
            return 2;
        }
        if (row == null) {
            return 1;
        }
        if (n < 0) {
            return 4;
        }
        return i < 0 || i > lengthOf(row) || i + n > lengthOf(row) ? 3 : 0;
    }

    // ---- 1

    private static boolean begins(String codes) {
        // A text goes on behind these codes if they are the beginning of some whole text.
        return "a;s01;s01;s01;s01;s01;s01".length() >= codes.length() && fill(codes).matches("a(;[sfo][0-7][1-9]){2,6}");
    }

    private static String fill(String codes) {
        int length = Math.max(9, codes.length() % 4 == 1 ? codes.length() : codes.length() + (5 - codes.length() % 4) % 4);
        return codes + "a;s01;s01;s01;s01;s01;s01".substring(codes.length(), length);
    }

    int ship(int sheet, int lane, int i, int n) {
        if (sheet < 0 || sheet > 3) {
            return refuse(UNKNOWN);
        }
        if (lane < 0 || lane > 2) {
            return refuse(OUTSIDE);
        }
        int fault = takeFault(rows[sheet], lane, i, n);
        if (fault != 0) {
            return fail(fault);
        }
        faultNow = 0;
        StringBuilder codes = new StringBuilder();
        for (int k = 0; k < n; k++) {
            int code = at(rows[sheet], i + k);
            codes.append(code < 0 || code > 127 ? '?' : (char) code);
            if (!begins(codes.toString())) {
                return -100 - k;
            }
        }
        if (!codes.toString().matches("a(;[sfo][0-7][1-9]){2,6}")) {
            return -100 - n;
        }
        text = codes.toString();
        isUp = new boolean[12][6];
        wanted = new int[12];
        lawNow = 0;
        notes.clear();
        readings.clear();
        return count();
    }

    int ofSleeper(int s, int what) {
        if (!isSleeper(s)) {
            return UNKNOWN;
        }
        if (what < 0 || what > 3) {
            return OUTSIDE;
        }
        return new int[] {kind(s), textSkills(s), bears(s), harmOnce(s)}[what];
    }

    int up(int s, int month, boolean is) {
        if (!isSleeper(s)) {
            return UNKNOWN;
        }
        if (!isMonth(month)) {
            return OUTSIDE;
        }
        boolean was = isUp[month][s];
        isUp[month][s] = is;
        return was == is ? 0 : 1;
    }

    int wants(int month, int skills) {
        if (!isMonth(month) || skills < 0 || skills > 7) {
            return OUTSIDE;
        }
        if (count() == 0) {
            return STATE;
        }
        int was = wanted[month];
        wanted[month] = skills;
        return was;
    }

    int law(int v) {
        if (v < 0 || v > 1) {
            return OUTSIDE;
        }
        if (count() == 0) {
            return STATE;
        }
        int was = lawNow;
        lawNow = v;
        return was;
    }

    int note(int from, int to) {
        if (!isSleeper(from) || !isSleeper(to) || from == to) {
            return UNKNOWN;
        }
        if (notes.size() == 8) {
            return FULL;
        }
        notes.add(new int[] {from, to});
        return notes.size() - 1;
    }

    int tear(int k) {
        return takeLast(notes, k);
    }

    private static int takeLast(List<int[]> list, int k) {
        if (k < 0 || k > list.size()) {
            return OUTSIDE;
        }
        for (int j = 0; j < k; j++) {
            list.remove(list.size() - 1);
        }
        return list.size();
    }

    // ---- 2

    private static int asSet(boolean[] members) {
        int set = 0;
        for (int s = 0; s < members.length; s++) {
            set += members[s] ? 1 << s : 0;
        }
        return set;
    }

    int awake(int month) {
        return !isMonth(month) ? OUTSIDE : count() == 0 ? STATE : asSet(isUp[month]);
    }

    private int harmBy(boolean[][] turns, int s, int month) {
        int times = 0;
        for (int m = 0; m <= month; m++) {
            times += turns[m][s] && (m == 0 || !turns[m - 1][s]) ? 1 : 0;
        }
        return times * harmOnce(s);
    }

    /** Of each month and each one: its skills then. */
    private int[][] knowledge(boolean[][] turns) {
        int[][] known = new int[12][6];
        for (int m = 0; m < 12; m++) {
            for (int s = 0; s < count(); s++) {
                known[m][s] = m == 0 ? textSkills(s) : known[m - 1][s];
                for (int other = 0; lawNow == 1 && m > 0 && other < count(); other++) {
                    known[m][s] |= turns[m - 1][s] && turns[m - 1][other] ? known[m - 1][other] : 0;
                }
            }
        }
        return known;
    }

    private int skillsIn(boolean[][] turns, int s, int month) {
        return knowledge(turns)[month][s];
    }

    private int lacksIn(boolean[][] turns, int month) {
        int lacks = wanted[month];
        for (int s = 0; s < count() && lacks != 0; s++) {
            if (turns[month][s]) {
                lacks &= ~skillsIn(turns, s, month);
            }
        }
        return lacks;
    }

    private int spentIn(boolean[][] turns, int month) {
        for (int s = 0; s < count(); s++) {
            if (harmBy(turns, s, month) > bears(s)) {
                return s;
            }
        }
        return NONE;
    }

    int harm(int s, int month) {
        return !isSleeper(s) ? UNKNOWN : !isMonth(month) ? OUTSIDE : harmBy(isUp, s, month);
    }

    int skills(int s, int month) {
        return !isSleeper(s) ? UNKNOWN : !isMonth(month) ? OUTSIDE : skillsIn(isUp, s, month);
    }

    int lacks(int month) {
        return !isMonth(month) ? OUTSIDE : count() == 0 ? STATE : lacksIn(isUp, month);
    }

    int wrong(int what) {
        if (what < 0 || what > 2) {
            return OUTSIDE;
        }
        if (count() == 0) {
            return STATE;
        }
        for (int m = 0; m < 12; m++) {
            if (what == 0 && lacksIn(isUp, m) != 0) {
                return m;
            }
            if (what != 0 && spentIn(isUp, m) != NONE) {
                return what == 1 ? m : spentIn(isUp, m);
            }
        }
        return NONE;
    }

    private boolean meets(int set, int month) {
        int have = 0;
        for (int s = 0; s < count(); s++) {
            have |= (set >> s & 1) == 1 ? textSkills(s) : 0;
        }
        return (wanted[month] & ~have) == 0;
    }

    int cover(int month) {
        if (!isMonth(month)) {
            return OUTSIDE;
        }
        if (count() == 0) {
            return STATE;
        }
        for (int size = 0; size <= count(); size++) {
            for (int set = 0; set < 1 << count(); set++) {
                if (Integer.bitCount(set) == size && meets(set, month)) {
                    return set;
                }
            }
        }
        return NONE;
    }

    /** Of each last set the best row up to it: {harm, sets of months 0 ..}; the best is the least in that order. */
    int least(int month) {
        if (month < -1 || month > 11) {
            return OUTSIDE;
        }
        if (count() == 0) {
            return STATE;
        }
        int[][] best = new int[64][];
        best[0] = new int[] {0};
        for (int m = 0; m < 12; m++) {
            int[][] next = new int[64][];
            for (int set = 0; set < 1 << count(); set++) {
                for (int before = 0; before < 1 << count() && meets(set, m); before++) {
                    next[set] = lesser(next[set], goneOn(best[before], before, set, m));
                }
            }
            best = next;
        }
        int[] all = null;
        for (int[] row : best) {
            all = lesser(all, row);
        }
        return all == null ? NONE : all[month + 1];
    }

    private int[] goneOn(int[] row, int before, int set, int m) {
        if (row == null) {
            return null;
        }
        int[] longer = Arrays.copyOf(row, m + 2);
        longer[m + 1] = set;
        for (int s = 0; s < count(); s++) {
            longer[0] += ((set & ~before) >> s & 1) == 1 ? harmOnce(s) : 0;
        }
        return longer;
    }

    private static int[] lesser(int[] a, int[] b) {
        if (a == null || b == null) {
            return a == null ? b : a;
        }
        return Arrays.compare(a, b) <= 0 ? a : b;
    }

    int judge(int sheet, int lane, int i, int n) {
        if (sheet < 0 || sheet > 3) {
            return refuse(UNKNOWN);
        }
        if (lane < 0 || lane > 2) {
            return refuse(OUTSIDE);
        }
        if (count() == 0) {
            return refuse(STATE);
        }
        int fault = takeFault(rows[sheet], lane, i, n);
        if (fault != 0) {
            return fail(fault);
        }
        faultNow = 0;
        if (n > 12) {
            return OUTSIDE;
        }
        boolean[][] told = new boolean[12][6];
        for (int m = 0; m < n; m++) {
            int cell = at(rows[sheet], i + m);
            if (cell < 0 || cell >= 1 << count()) {
                return OUTSIDE;
            }
            for (int s = 0; s < count(); s++) {
                told[m][s] = (cell >> s & 1) == 1;
            }
        }
        return firstBad(told, n);
    }

    private int firstBad(boolean[][] turns, int n) {
        for (int m = 0; m < n; m++) {
            if (lacksIn(turns, m) != 0 || spentIn(turns, m) != NONE) {
                return m;
            }
        }
        return NONE;
    }

    private boolean[][] cloned() {
        boolean[][] turns = new boolean[12][];
        for (int m = 0; m < 12; m++) {
            turns[m] = isUp[m].clone();
        }
        return turns;
    }

    int trades(int k) {
        if (k < -1) {
            return UNKNOWN;
        }
        if (count() == 0) {
            return STATE;
        }
        List<Integer> pairs = new ArrayList<>();
        for (int a = 0; a < count(); a++) {
            for (int b = a + 1; b < count(); b++) {
                boolean[][] turns = cloned();
                for (int m = 0; m < 12; m++) {
                    turns[m][a] = isUp[m][b];
                    turns[m][b] = isUp[m][a];
                }
                if (firstBad(turns, 12) == NONE) {
                    pairs.add(10 * a + b);
                }
            }
        }
        return k == -1 ? pairs.size() : k < pairs.size() ? pairs.get(k) : NONE;
    }

    // ---- 3

    /** Whether one knows the news as a month ended. */
    private boolean[][] spread(boolean[][] turns, int from, int since) {
        boolean[][] knew = new boolean[12][6];
        for (int m = since; m < 12; m++) {
            if (m > since) {
                knew[m] = knew[m - 1].clone();
            }
            knew[m][from] = true;
            for (int[] note : notes) {
                for (int ahead = 0; ahead < m && turns[m][note[1]]; ahead++) {
                    knew[m][note[1]] |= turns[ahead][note[0]] && knew[ahead][note[0]];
                }
            }
            boolean any = false;
            for (int s = 0; s < 6; s++) {
                any |= turns[m][s] && knew[m][s];
            }
            for (int s = 0; s < 6; s++) {
                knew[m][s] |= any && turns[m][s];
            }
        }
        return knew;
    }

    int knows(int from, int since, int to) {
        if (!isSleeper(from) || !isSleeper(to)) {
            return UNKNOWN;
        }
        if (!isMonth(since)) {
            return OUTSIDE;
        }
        boolean[][] knew = spread(isUp, from, since);
        for (int m = 0; m < 12; m++) {
            if (knew[m][to]) {
                return m;
            }
        }
        return NONE;
    }

    int kept(int from, int since) {
        if (!isSleeper(from)) {
            return UNKNOWN;
        }
        if (!isMonth(since)) {
            return OUTSIDE;
        }
        int set = 0;
        for (int s = 0; s < count(); s++) {
            set |= knows(from, since, s) == NONE ? 1 << s : 0;
        }
        return set;
    }

    // ---- 4

    int reading(int s, int month, boolean knew) {
        if (!isSleeper(s)) {
            return UNKNOWN;
        }
        if (!isMonth(month)) {
            return OUTSIDE;
        }
        if (readings.size() == 8) {
            return FULL;
        }
        readings.add(new int[] {s, month, knew ? 1 : 0});
        return readings.size() - 1;
    }

    int back(int k) {
        return takeLast(readings, k);
    }

    private boolean allSo(boolean[][] knew) {
        for (int[] r : readings) {
            if (knew[r[1]][r[0]] != (r[2] == 1)) {
                return false;
            }
        }
        return true;
    }

    int began(int month) {
        if (!isMonth(month)) {
            return OUTSIDE;
        }
        if (count() == 0) {
            return STATE;
        }
        int set = 0;
        for (int s = 0; s < count(); s++) {
            set |= allSo(spread(isUp, s, month)) ? 1 << s : 0;
        }
        return set;
    }

    int woken(int from, int since, int month) {
        if (!isSleeper(from)) {
            return UNKNOWN;
        }
        if (!isMonth(since) || !isMonth(month)) {
            return OUTSIDE;
        }
        int set = 0;
        for (int s = 0; s < count(); s++) {
            boolean[][] turns = cloned();
            turns[month][s] = true;
            set |= allSo(spread(turns, from, since)) ? 1 << s : 0;
        }
        return set;
    }

    // ---- 5

    long odds(int month, int which) {
        if (!isMonth(month) || which < 0 || which > 1 || count() == 0) {
            return LOST;
        }
        int well = 0;
        for (int never = 0; never < 1 << count(); never++) {
            boolean[][] turns = cloned();
            boolean isWell = true;
            for (int m = 0; m < 12; m++) {
                for (int s = 0; s < count(); s++) {
                    turns[m][s] &= (never >> s & 1) == 0;
                }
            }
            for (int m = 0; m <= month; m++) {
                isWell &= lacksIn(turns, m) == 0;
            }
            well += isWell ? 1 : 0;
        }
        int by = java.math.BigInteger.valueOf(well).gcd(java.math.BigInteger.valueOf(1 << count())).intValue();
        return which == 0 ? well / by : (1 << count()) / by;
    }

    int sheet(int k, int lane, int n) {
        if (k < 0 || k > 3) {
            return refuse(UNKNOWN);
        }
        if (lane < 0 || lane > 2 || n > 60) {
            return refuse(OUTSIDE);
        }
        if (n < 0) {
            return fail(4);
        }
        faultNow = 0;
        rows[k] = lane == 0 ? new byte[n] : lane == 1 ? new short[n] : new int[n];
        return 1;
    }

    int lose(int k) {
        if (k < 0 || k > 3) {
            return UNKNOWN;
        }
        int had = rows[k] == null ? 0 : 1;
        rows[k] = null;
        return had;
    }

    int put(int k, int i, int v) {
        if (k < 0 || k > 3) {
            return refuse(UNKNOWN);
        }
        if (rows[k] == null) {
            return fail(1);
        }
        if (i < 0 || i >= lengthOf(rows[k])) {
            return fail(3);
        }
        faultNow = 0;
        if (rows[k] instanceof byte[] row) {
            row[i] = (byte) v;
        } else if (rows[k] instanceof short[] row) {
            row[i] = (short) v;
        } else if (rows[k] instanceof int[] row) {
            row[i] = v;
        }
        return 1;
    }

    long cell(int k, int i, int lane) {
        faultNow = 0;
        if (k < 0 || k > 3 || lane < 0 || lane > 2) {
            return LOST;
        }
        if (rows[k] != null && laneOf(rows[k]) != lane) {
            faultNow = 2;
        } else if (rows[k] == null) {
            faultNow = 1;
        } else if (i < 0 || i >= lengthOf(rows[k])) {
            faultNow = 3;
        }
        return faultNow == 0 ? at(rows[k], i) : LOST;
    }

    int copy(int k, int i, int other, int j, int n) {
        if (k < 0 || k > 3 || other < 0 || other > 3) {
            return refuse(UNKNOWN);
        }
        if (rows[k] == null || rows[other] == null) {
            return fail(1);
        }
        if (laneOf(rows[k]) != laneOf(rows[other])) {
            return fail(2);
        }
        if (i < 0 || j < 0 || n < 0 || (long) i + n > lengthOf(rows[k]) || (long) j + n > lengthOf(rows[other])) {
            return fail(3);
        }
        int[] were = new int[n];
        for (int c = 0; c < n; c++) {
            were[c] = at(rows[k], i + c);
        }
        for (int c = 0; c < n; c++) {
            put(other, j + c, were[c]);
        }
        faultNow = 0;
        return n;
    }

    private int body(int number, int gives) {
        traceNow = 31 * traceNow + number;
        return gives;
    }

    int tell(int s) {
        if (!isSleeper(s)) {
            return UNKNOWN;
        }
        switch (kind(s)) {
            case 0: return body(1, bears(s));
            case 1: return body(2, 100) + body(1, bears(s));
            default: return body(3, 0) + body(2, 100) + body(1, bears(s)) + body(1, bears(s));
        }
    }

    int greet(int s) {
        if (!isSleeper(s)) {
            return UNKNOWN;
        }
        return kind(s) == 2 ? body(5, 60) : body(4, s);
    }

    int as(int s, int kind) {
        if (!isSleeper(s)) {
            return refuse(UNKNOWN);
        }
        if (kind < 0 || kind > 2) {
            return refuse(OUTSIDE);
        }
        if (kind(s) < kind) {
            return fail(2);
        }
        faultNow = 0;
        return 1;
    }

    int trace() {
        return traceNow;
    }

    int fault() {
        return faultNow;
    }

    int many(int what) {
        if (what < 0 || what > 3) {
            return OUTSIDE;
        }
        return new int[] {count(), notes.size(), readings.size(), lawNow}[what];
    }
}
