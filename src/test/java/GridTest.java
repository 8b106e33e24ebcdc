import java.lang.reflect.InvocationTargetException;
import java.lang.reflect.Method;
import java.lang.reflect.Modifier;
import java.util.ArrayList;
import java.util.Arrays;
import java.util.List;
import java.util.Map;
import java.util.TreeMap;

/**
 * Every call with every choice of arguments out of a list that has all edges, on several ships, compared with the plain
 * model: no choice may throw, and of several refusals the one that is told first must be answered.
 */
public final class GridTest {
    private static final int FAR = Integer.MAX_VALUE, FAR_BELOW = Integer.MIN_VALUE;
    /** The more arguments a call has, the fewer values are tried for each. */
    private static final int[] MANY = {FAR_BELOW, FAR_BELOW + 1, -2, -1, 0, 1, 2, 3, 4, 5, 6, 7, 8, 9, 11, 12, 13, 14, 17, 31, 32,
        33, 60, 61, 64, FAR - 1, FAR};
    private static final int[] SOME = {FAR_BELOW, -1, 0, 1, 2, 3, 4, 11, 12, 13, 14, 17, 18, FAR - 1, FAR};
    private static final int[] FEW = {FAR_BELOW, -1, 0, 1, 2, 3, 4, 14, 15, FAR};
    /** An object is used for at most this many calls. */
    private static final int CALLS = 512;
    private static final Map<String, Method> REAL = methodsOf(AwakeTurns.class);
    private static final Map<String, Method> PLAIN = methodsOf(PlainModel.class);

    private final Due due;
    private final int state;
    private AwakeTurns real;
    private PlainModel plain;
    private int asked = 0;

    private GridTest(Due due, int state) {
        this.due = due;
        this.state = state;
    }

    public static void main(String[] args) throws Exception {
        Due due = new Due();
        for (int state = 0; state < 5; state++) {
            GridTest test = new GridTest(due, state);
            for (Method call : REAL.values()) {
                if (Modifier.isPublic(call.getModifiers())) {
                    test.begin();
                    test.everyChoice(call, new ArrayList<>());
                }
            }
        }
        due.end();
    }

    private static Map<String, Method> methodsOf(Class<?> of) {
        Map<String, Method> all = new TreeMap<>();
        for (Method m : of.getDeclaredMethods()) {
            all.put(m.getName(), m);
        }
        return all;
    }

    private void everyChoice(Method call, List<Object> chosen) throws ReflectiveOperationException {
        int arguments = call.getParameterCount();
        if (chosen.size() == arguments) {
            tryOut(call, chosen.toArray());
        } else if (call.getParameterTypes()[chosen.size()] == boolean.class) {
            withLast(call, chosen, false);
            withLast(call, chosen, true);
        } else {
            for (int value : arguments < 4 ? MANY : arguments == 4 ? SOME : FEW) {
                withLast(call, chosen, value);
            }
        }
    }

    private void withLast(Method call, List<Object> chosen, Object value) throws ReflectiveOperationException {
        chosen.add(value);
        everyChoice(call, chosen);
        chosen.remove(chosen.size() - 1);
    }

    private void tryOut(Method call, Object[] choice) throws ReflectiveOperationException {
        if (asked + 2 > CALLS) {
            begin();
        }
        same(call.getName(), choice);
        same("fault");
    }

    private void same(String name, Object... choice) throws ReflectiveOperationException {
        asked++;
        long got = answer(REAL.get(name), real, choice);
        long want = answer(PLAIN.get(name), plain, choice);
        due.is(got == want ? name : "state " + state + ": " + name + Arrays.toString(choice), got, want);
    }

    private static long answer(Method call, Object target, Object[] choice) throws ReflectiveOperationException {
        try {
            return ((Number) call.invoke(target, choice)).longValue();
        } catch (InvocationTargetException e) {
            throw new IllegalStateException(call.getName() + Arrays.toString(choice) + " threw", e.getCause());
        }
    }

    // the ships: 0 nothing at all, 1 sheets alone, 2 four sleepers, 3 four with all that can be full, 4 six sleepers

    private void begin() throws ReflectiveOperationException {
        real = new AwakeTurns();
        plain = new PlainModel();
        asked = 0;
        if (state >= 1) {
            row(0, 0, (state == 4 ? "a;s15;f29;o49;s33;f72;o01" : Ships.TEXT).chars().toArray());
            row(1, 1, Ships.SHORTS);
            row(2, 2, Ships.INTS);
        }
        if (state >= 2) {
            ship(state == 4 ? 25 : 17);
        }
        for (int k = 0; k < 8 && state == 3; k++) {
            same("note", k % 4, (k + 1) % 4);
            same("reading", k % 4, 11 - k % 2, k % 3 != 0);
        }
    }

    private void row(int k, int lane, int... cells) throws ReflectiveOperationException {
        same("sheet", k, lane, cells.length);
        for (int i = 0; i < cells.length; i++) {
            same("put", k, i, cells[i]);
        }
    }

    private void ship(int n) throws ReflectiveOperationException {
        same("ship", 0, 0, 0, n);
        same("law", 1);
        for (int m = 0; m < 12; m++) {
            for (int s = 0; s < n / 4; s++) {
                if ((Ships.TURNS[m] >> s % 4 & 1) == 1) {
                    same("up", s, m, true);
                }
            }
            same("wants", m, m == 2 ? 3 : m % 4);
        }
    }
}
