import java.lang.reflect.InvocationTargetException;
import java.lang.reflect.Method;
import java.util.ArrayList;
import java.util.HashMap;
import java.util.List;
import java.util.Map;

/**
 * A HandedLens that is called by text, such as "chip(0, 99)". It remembers what was done, so that the same can be
 * done again on a new object: that is how a call is shown to have changed nothing, inside too.
 */
final class Lens {
    private static final int MOST_CALLS = 512;
    private static final int THREW = -999999999;
    private static final Map<String, Method> METHODS = new HashMap<>();
    // What brings to light that which no call tells: what can be undone, images, THE SEED, THE TEXT, MET, THE BOOK.
    private static final String[][] FOLLOWING = {
        {}, {"undo(1)"}, {"undo(1)", "undo(1)"}, {"undo(ALL)"}, {"goBack(0)", "seed(0)"}, {"goBack(1)", "seed(0)"},
        {"seed(0)"}, {"drift(7)"}, {"year(7)"}, {"line()"}, {"feed(120)", "line()"}, {"wipe(0)"}, {"chip(0, 99)"}};

    private final List<String> done = new ArrayList<>();
    private final List<List<Integer>> known = new ArrayList<>();
    private HandedLens lens = new HandedLens();
    private int calls = 0;

    /** One whose text has no fault. */
    static Lens of(String text) {
        Lens x = new Lens();
        x.feed(text);
        int scenes = x.call("line()");
        Sheet.due("line() of '" + text + "' has a fault", scenes < 0 ? 1 : 0, 0);
        return x;
    }

    void feed(String text) {
        for (int i = 0; i < text.length(); i++) {
            call("feed(" + (int) text.charAt(i) + ")");
        }
    }

    /** A call that may change what is so. */
    int call(String call) {
        done.add(call);
        known.clear();
        return callNow(call);
    }

    void calls(String... all) {
        for (String call : all) {
            call(call);
        }
    }

    Lens does(String call, int want) {
        Sheet.due(call, call(call), want);
        return this;
    }

    /** The answer is due, and nothing is changed by the call: so for what is refused, and for what is asked. */
    Lens asks(String call, int want) {
        Sheet.due(call, callNow(call), want);
        changeNothing(List.of(call));
        return this;
    }

    /** Nothing is changed by all of these calls together. */
    void changeNothing(List<String> all) {
        for (int f = 0; f < FOLLOWING.length; f++) {
            if (known.size() == f) {
                known.add(follow(List.of(), f));
            }
            sameAs(known.get(f), follow(all, f), String.join(" ", FOLLOWING[f]) + " behind " + String.join(" ", all));
        }
    }

    /** The answer is due; that the call changes nothing is shown elsewhere. */
    Lens is(String call, int want) {
        Sheet.due(call, callNow(call), want);
        return this;
    }

    Lens layer(int k, int scene, int wearer, int strength) {
        return is("layer(" + k + ", 0)", scene).is("layer(" + k + ", 1)", wearer).is("layer(" + k + ", 2)", strength);
    }

    /** How strong its layers are, the lowest first, and that there are no more. */
    Lens strengths(int... all) {
        is("told(6)", all.length);
        for (int k = 0; k < all.length; k++) {
            is("layer(" + k + ", 2)", all[k]);
        }
        return this;
    }

    Lens logged(int i, int year, int wearer, int scene, int taken) {
        is("logged(" + i + ", 0)", year).is("logged(" + i + ", 1)", wearer);
        return is("logged(" + i + ", 2)", scene).is("logged(" + i + ", 3)", taken);
    }

    /** All that calls tell of it, in their order. */
    List<Integer> told() {
        List<Integer> all = new ArrayList<>();
        all.add(callNow("fault()"));
        table(all, "told", 1, 16);
        table(all, "scene", callNow("told(1)"), 4);
        table(all, "wearer", callNow("told(2)"), 5);
        table(all, "layer", callNow("told(6)"), 3);
        table(all, "logged", callNow("told(12)"), 4);
        all.add(callNow("couldBe()"));
        all.add(callNow("ask()"));
        all.add(callNow("judge()"));
        return all;
    }

    /** Both tell the same of all, but for the letter of the latest fault. */
    void isAs(Lens other, String what) {
        List<Integer> mine = told();
        List<Integer> others = other.told();
        sameAs(others.subList(1, others.size()), mine.subList(1, mine.size()), what);
    }

    private void table(List<Integer> all, String name, int rows, int columns) {
        for (int i = 0; i < rows; i++) {
            for (int what = 0; what < columns; what++) {
                all.add(callNow(name.equals("told") ? "told(" + what + ")" : name + "(" + i + ", " + what + ")"));
            }
        }
    }

    private static void sameAs(List<Integer> want, List<Integer> got, String what) {
        Sheet.due(what + ": how much it tells", got.size(), want.size());
        for (int i = 0; i < Math.min(got.size(), want.size()); i++) {
            if (!got.get(i).equals(want.get(i))) {
                Sheet.due(what + ": row " + i, got.get(i), want.get(i));
                return;
            }
        }
    }

    /** On a new object: all that was done, the calls, and what follows; with what is told then. */
    private List<Integer> follow(List<String> all, int f) {
        Lens twin = again();
        for (String call : all) {
            twin.callNow(call);
        }
        List<Integer> answers = new ArrayList<>();
        for (String next : FOLLOWING[f]) {
            answers.add(twin.callNow(next.replace("ALL", Integer.toString(twin.callNow("told(15)")))));
        }
        answers.addAll(twin.told());
        return answers;
    }

    /** The same on a new object. */
    Lens again() {
        Lens twin = new Lens();
        for (String call : done) {
            twin.call(call);
        }
        return twin;
    }

    private int callNow(String call) {
        calls++;
        if (calls == MOST_CALLS + 1) {
            Sheet.due("calls of one object, the last being " + call, calls, MOST_CALLS);
        }
        int open = call.indexOf('(');
        Method method = methodOf(call.substring(0, open));
        String inside = call.substring(open + 1, call.length() - 1);
        String[] told = inside.isEmpty() ? new String[0] : inside.split(", ");
        Object[] values = new Object[told.length];
        for (int i = 0; i < told.length; i++) {
            boolean bool = method.getParameterTypes()[i] == boolean.class;
            values[i] = bool ? (Object) Boolean.valueOf(told[i]) : (Object) Integer.valueOf(told[i]);
        }
        return invoke(method, values, call);
    }

    private int invoke(Method method, Object[] values, String call) {
        try {
            return (Integer) method.invoke(lens, values);
        } catch (InvocationTargetException e) {
            Sheet.due(call + " threw " + e.getCause(), 1, 0);
            return THREW;
        } catch (IllegalAccessException e) {
            throw new IllegalStateException(call, e);
        }
    }

    private static Method methodOf(String name) {
        if (METHODS.isEmpty()) {
            for (Method m : HandedLens.class.getMethods()) {
                METHODS.put(m.getName(), m);
            }
        }
        Method method = METHODS.get(name);
        if (method == null) {
            throw new IllegalStateException("no call " + name);
        }
        return method;
    }
}
