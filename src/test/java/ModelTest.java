import java.util.Random;

/** Long runs of calls, the same on the class and on the plain model; the seeds are fixed, so each run is always the same. */
public final class ModelTest {
    private static final int RUNS = 4000;
    /** An object is used for at most 512 calls; the dearest step makes some 110, and the last look six. */
    private static final int CALLS = 512, DEAREST_STEP = 120;

    private final Due due;
    private final int run;
    private final Random random;
    private final AwakeTurns real = new AwakeTurns();
    private final PlainModel plain = new PlainModel();
    private int asked = 0;

    private ModelTest(Due due, int run) {
        this.due = due;
        this.run = run;
        this.random = new Random(run);
    }

    public static void main(String[] args) {
        Due due = new Due();
        for (int run = 0; run < RUNS && !due.hasWrong(); run++) {
            new ModelTest(due, run).go();
        }
        due.end();
    }

    private void go() {
        for (int k = 0; asked < CALLS - DEAREST_STEP && !due.hasWrong(); k++) {
            if (k % 50 == 10) {
                takeShip();
            }
            if (k % 50 == 11 && random.nextInt(4) != 0) {
                fillTurns();
            }
            call();
            same("fault()", real.fault(), plain.fault());
            same("trace()", real.trace(), plain.trace());
        }
        for (int what = -1; what <= 4; what++) {
            same("many(" + what + ")", real.many(what), plain.many(what));
        }
    }

    private void same(String call, long got, long want) {
        asked++;
        due.is("run " + run + ": " + call, got, want);
    }

    /** Mostly a number of 0 .. most, at times one just outside, seldom one far away. */
    private int near(int most) {
        int kind = random.nextInt(60);
        if (kind == 0) {
            return new int[] {Integer.MIN_VALUE, Integer.MAX_VALUE, -1000, 1000, 31, 32, 33, 64}[random.nextInt(8)];
        }
        if (kind < 5) {
            return kind < 3 ? -1 : most + 1;
        }
        return random.nextInt(most + 1);
    }

    private int sleeper() {
        int count = plain.many(0);
        return random.nextInt(20) == 0 ? near(6) : near(Math.max(0, count - 1));
    }

    private String shipText() {
        StringBuilder text = new StringBuilder("a");
        int count = 2 + random.nextInt(5);
        for (int s = 0; s < count; s++) {
            text.append(';').append("sfo".charAt(random.nextInt(3)));
            text.append((char) ('0' + random.nextInt(8))).append((char) ('1' + random.nextInt(9)));
        }
        int flaw = random.nextInt(12);
        if (flaw == 0) {
            text.setCharAt(random.nextInt(text.length()), "a;sfo0789:/x".charAt(random.nextInt(12)));
        } else if (flaw == 1) {
            text.setLength(random.nextInt(text.length()));
        } else if (flaw == 2) {
            text.append(";s11".substring(0, 1 + random.nextInt(4)));
        }
        return text.toString();
    }

    private void takeShip() {
        String text = shipText();
        int k = random.nextInt(4);
        int lane = random.nextInt(3);
        int i = random.nextInt(5);
        same("sheet", real.sheet(k, lane, text.length() + i), plain.sheet(k, lane, text.length() + i));
        for (int c = 0; c < text.length(); c++) {
            same("put", real.put(k, i + c, text.charAt(c)), plain.put(k, i + c, text.charAt(c)));
        }
        same("ship of " + text, real.ship(k, lane, i, text.length()), plain.ship(k, lane, i, text.length()));
    }

    private void fillTurns() {
        int often = 1 + random.nextInt(4);
        for (int m = 0; m < 12; m++) {
            for (int s = 0; s < plain.many(0); s++) {
                boolean is = random.nextInt(5) < often;
                same("up", real.up(s, m, is), plain.up(s, m, is));
            }
            if (random.nextInt(3) == 0) {
                int skills = random.nextInt(8) & random.nextInt(8);
                same("wants", real.wants(m, skills), plain.wants(m, skills));
            }
        }
    }

    private void call() {
        int which = random.nextInt(5);
        if (which == 0) {
            callOfShip();
        } else if (which == 1) {
            callOfMonths();
        } else if (which == 2) {
            callOfNews();
        } else {
            callOfSheets();
        }
    }

    private void callOfShip() {
        int a = sleeper();
        int b = near(11);
        boolean is = random.nextBoolean();
        switch (random.nextInt(7)) {
            case 0: same("ofSleeper(" + a + ", " + b % 5 + ")", real.ofSleeper(a, b % 5), plain.ofSleeper(a, b % 5)); break;
            case 1: same("up(" + a + ", " + b + ", " + is + ")", real.up(a, b, is), plain.up(a, b, is)); break;
            case 2: {
                int skills = near(7);
                same("wants(" + b + ", " + skills + ")", real.wants(b, skills), plain.wants(b, skills));
                break;
            }
            case 3: {
                int v = near(1);
                same("law(" + v + ")", real.law(v), plain.law(v));
                break;
            }
            case 4: {
                int to = sleeper();
                same("note(" + a + ", " + to + ")", real.note(a, to), plain.note(a, to));
                break;
            }
            case 5: {
                int k = near(2);
                same("tear(" + k + ")", real.tear(k), plain.tear(k));
                break;
            }
            default: same("awake(" + b + ")", real.awake(b), plain.awake(b));
        }
    }

    private void callOfMonths() {
        int s = sleeper();
        int m = near(11);
        switch (random.nextInt(10)) {
            case 0: same("harm(" + s + ", " + m + ")", real.harm(s, m), plain.harm(s, m)); break;
            case 1: same("skills(" + s + ", " + m + ")", real.skills(s, m), plain.skills(s, m)); break;
            case 2: same("lacks(" + m + ")", real.lacks(m), plain.lacks(m)); break;
            case 3: {
                int what = near(2);
                same("wrong(" + what + ")", real.wrong(what), plain.wrong(what));
                break;
            }
            case 4: same("cover(" + m + ")", real.cover(m), plain.cover(m)); break;
            case 5: {
                if (random.nextInt(8) == 0) {
                    int month = near(12) - 1;
                    same("least(" + month + ")", real.least(month), plain.least(month));
                }
                break;
            }
            case 6: judgeTold(); break;
            case 7: same("trades(-1)", real.trades(-1), plain.trades(-1)); break;
            case 8: {
                int k = near(6);
                same("trades(" + k + ")", real.trades(k), plain.trades(k));
                break;
            }
            default: {
                int which = near(1);
                same("odds(" + m + ", " + which + ")", real.odds(m, which), plain.odds(m, which));
            }
        }
    }

    private void judgeTold() {
        int n = random.nextInt(14);
        int lane = random.nextInt(3);
        same("sheet", real.sheet(2, lane, n), plain.sheet(2, lane, n));
        for (int m = 0; m < n; m++) {
            int set = random.nextInt(60) == 0 ? near(127) : random.nextInt(1 << plain.many(0));
            same("put", real.put(2, m, set), plain.put(2, m, set));
        }
        same("judge(2, " + lane + ", 0, " + n + ")", real.judge(2, lane, 0, n), plain.judge(2, lane, 0, n));
    }

    private void callOfNews() {
        int a = sleeper();
        int b = sleeper();
        int m = near(11);
        int since = near(11);
        boolean knew = random.nextBoolean();
        switch (random.nextInt(7)) {
            case 0: same("knows(" + a + ", " + since + ", " + b + ")", real.knows(a, since, b), plain.knows(a, since, b)); break;
            case 1: same("kept(" + a + ", " + since + ")", real.kept(a, since), plain.kept(a, since)); break;
            case 2: same("reading(" + a + ", " + m + ", " + knew + ")", real.reading(a, m, knew), plain.reading(a, m, knew)); break;
            case 3: {
                int k = near(2);
                same("back(" + k + ")", real.back(k), plain.back(k));
                break;
            }
            case 4: same("began(" + m + ")", real.began(m), plain.began(m)); break;
            case 5: same("woken(" + a + ", " + since + ", " + m + ")", real.woken(a, since, m), plain.woken(a, since, m)); break;
            default: {
                same("note(" + a + ", " + b + ")", real.note(a, b), plain.note(a, b));
            }
        }
    }

    private void callOfSheets() {
        int k = near(3);
        int other = near(3);
        int lane = near(2);
        int i = near(20);
        int j = near(20);
        int n = near(12);
        int v = random.nextBoolean() ? random.nextInt() : random.nextInt(130);
        int s = sleeper();
        switch (random.nextInt(10)) {
            case 0: same("ship(" + k + ", " + lane + ", " + i + ", " + n + ")", real.ship(k, lane, i, n), plain.ship(k, lane, i, n)); break;
            case 1: {
                String call = "judge(" + k + ", " + lane + ", " + i + ", " + n + ")";
                same(call, real.judge(k, lane, i, n), plain.judge(k, lane, i, n));
                break;
            }
            case 2: {
                int length = near(60);
                same("sheet(" + k + ", " + lane + ", " + length + ")", real.sheet(k, lane, length), plain.sheet(k, lane, length));
                break;
            }
            case 3: {
                if (random.nextInt(3) == 0) {
                    same("lose(" + k + ")", real.lose(k), plain.lose(k));
                }
                break;
            }
            case 4: same("put(" + k + ", " + i + ", " + v + ")", real.put(k, i, v), plain.put(k, i, v)); break;
            case 5: same("cell(" + k + ", " + i + ", " + lane + ")", real.cell(k, i, lane), plain.cell(k, i, lane)); break;
            case 6: {
                String call = "copy(" + k + ", " + i + ", " + other + ", " + j + ", " + n + ")";
                same(call, real.copy(k, i, other, j, n), plain.copy(k, i, other, j, n));
                break;
            }
            case 7: same("tell(" + s + ")", real.tell(s), plain.tell(s)); break;
            case 8: same("greet(" + s + ")", real.greet(s), plain.greet(s)); break;
            default: same("as(" + s + ", " + lane + ")", real.as(s, lane), plain.as(s, lane));
        }
    }
}
