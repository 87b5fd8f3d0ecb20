import java.lang.reflect.Method;
import java.util.ArrayList;
import java.util.HashMap;
import java.util.List;
import java.util.Map;

/** An object whose calls are named by text, and counted. */
final class Player {
    static final int MOST_CALLS = 512;
    private static final Map<String, Method> FACE = face();
    private final DripRings rings = new DripRings();
    private int calls = 0;

    private static Map<String, Method> face() {
        Map<String, Method> all = new HashMap<>();
        for (Method m : DripRings.class.getDeclaredMethods()) {
            all.put(m.getName(), m);
        }
        return all;
    }

    int calls() {
        return calls;
    }

    long call(String name, int... numbers) {
        calls++;
        Method m = FACE.get(name);
        if (m == null || m.getParameterCount() != numbers.length) {
            throw new IllegalArgumentException("no call: " + name + " of " + numbers.length + " numbers");
        }
        Object[] given = new Object[numbers.length];
        for (int i = 0; i < numbers.length; i++) {
            given[i] = numbers[i];
        }
        try {
            return ((Number) m.invoke(rings, given)).longValue();
        } catch (ReflectiveOperationException e) {
            throw new IllegalStateException(name + " does not answer", e);
        }
    }

    /**
     * What can be asked: first what changes nothing; then what can be UNDONE, step by step; the images; the text.
     * It uses the object up: two objects that answer alike here are as far as can be seen in one state.
     */
    List<String> everyAnswer() {
        List<String> all = new ArrayList<>();
        askTheLaw(all);
        askNow(all);
        askToCome(all);
        askGrave(all);
        for (int i = 0; i < 9; i++) {
            ask(all, "undo");
            askBriefly(all);
        }
        for (int image = 0; image < 2; image++) {
            ask(all, "back", image);
            askBriefly(all);
        }
        ask(all, "rate", 5, 0);
        ask(all, "trace");
        ask(all, "ring");
        ask(all, "clear");
        askTheLaw(all);
        return all;
    }

    private void ask(List<String> all, String name, int... numbers) {
        StringBuilder told = new StringBuilder(name).append('(');
        for (int i = 0; i < numbers.length; i++) {
            told.append(i == 0 ? "" : ", ").append(numbers[i]);
        }
        all.add(told.append(") = ").append(call(name, numbers)).toString());
    }

    private void askBriefly(List<String> all) {
        ask(all, "now", 0);
        ask(all, "now", 1);
        ask(all, "now", 3);
    }

    private void askTheLaw(List<String> all) {
        for (int o = 0; o < 5; o++) {
            ask(all, "order", o, 0);
            ask(all, "order", o, 1);
        }
        for (int what = 0; what < 5; what++) {
            ask(all, "count", what);
        }
        for (int i = 0; i < 6; i++) {
            ask(all, "due", i, 0);
            ask(all, "due", i, 1);
        }
        ask(all, "trace");
    }

    private void askNow(List<String> all) {
        for (int what = 0; what < 5; what++) {
            ask(all, "now", what);
        }
        for (int o = 0; o < 5; o++) {
            ask(all, "order", o, 3);
            ask(all, "odds", o, 0);
            ask(all, "least", 200, o);
        }
        ask(all, "odds", 0, 1);
        ask(all, "barley", 1000, 1000000);
    }

    private void askToCome(List<String> all) {
        int now = (int) call("now", 0);
        for (int night : new int[] {now, now + 1, 120}) {
            for (int o = -2; o < 5; o++) {
                ask(all, "all", night, o);
            }
        }
        ask(all, "above", 1000);
        ask(all, "smelt", now, 100);
        ask(all, "met");
        ask(all, "left");
    }

    private void askGrave(List<String> all) {
        for (int what = 0; what < 3; what++) {
            ask(all, "mayBe", what);
        }
    }
}
