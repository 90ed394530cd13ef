import java.lang.reflect.InvocationTargetException;
import java.lang.reflect.Method;
import java.util.Arrays;
import java.util.HashMap;
import java.util.Map;

/** One object under test: calls by their names, so that what is printed is what was called. */
final class Desk {
    private static final int MOST_CALLS = 512;
    private static final Map<String, Method> CALLS = calls();

    private final MeterDesk desk = new MeterDesk();
    private final StringBuilder log = new StringBuilder();
    private int calls = 0;

    private static Map<String, Method> calls() {
        Map<String, Method> byName = new HashMap<>();
        for (Method method : MeterDesk.class.getMethods()) {
            if (method.getDeclaringClass() == MeterDesk.class) {
                byName.put(method.getName(), method);
            }
        }
        return byName;
    }

    int call(String name, int... numbers) {
        int answer = invoke(name, numbers);
        log.append(shown(name, numbers)).append(" = ").append(answer).append("; ");
        return answer;
    }

    private int invoke(String name, int... numbers) {
        calls++;
        if (calls > MOST_CALLS) {
            throw new IllegalStateException("the test uses an object for more calls than are promised: " + log);
        }
        Object[] boxed = Arrays.stream(numbers).boxed().toArray();
        try {
            return (Integer) CALLS.get(name).invoke(desk, boxed);
        } catch (InvocationTargetException thrown) {
            throw new IllegalStateException(shown(name, numbers) + " threw behind " + log, thrown.getCause());
        } catch (IllegalAccessException closed) {
            throw new IllegalStateException(closed);
        }
    }

    static String shown(String name, int... numbers) {
        return name + Arrays.toString(numbers).replace('[', '(').replace(']', ')');
    }

    Desk due(int want, String name, int... numbers) {
        Sentences.compare(want, call(name, numbers), name, numbers, log);
        return this;
    }

    Desk type(String text) {
        for (int i = 0; i < text.length(); i++) {
            invoke("write", text.charAt(i));
        }
        log.append("written: \"").append(text).append("\"; ");
        return this;
    }

    Desk tell(String text) {
        type(text);
        return due((int) text.chars().filter(letter -> letter == ';').count() + 1, "grid");
    }

    /** All that can be found out about the object; it is used up by that. */
    String picture() {
        StringBuilder all = new StringBuilder();
        note(all, "fault");
        int lines = call("count", 1);
        int meters = call("count", 2);
        int offers = call("count", 3);
        rows(all, "line", lines, 5);
        rows(all, "meter", meters, 6);
        rows(all, "offer", offers, 4);
        for (int what = 0; what < 14; what++) {
            note(all, "count", what);
        }
        for (int node = 0; node < 8; node++) {
            note(all, "island", node);
        }
        note(all, "weak", 0);
        note(all, "deal", 0);
        note(all, "fit");
        note(all, "ask");
        for (int tray = 0; tray < 3; tray++) {
            unload(all, tray);
        }
        unwind(all);
        for (int k = 0; k < 2; k++) {
            note(all, "back", k);
            standing(all);
        }
        note(all, "erase");
        return all.toString();
    }

    private void note(StringBuilder all, String name, int... numbers) {
        all.append(shown(name, numbers)).append(" = ").append(call(name, numbers)).append('\n');
    }

    private void rows(StringBuilder all, String name, int things, int whats) {
        for (int thing = 0; thing < things; thing++) {
            for (int what = 0; what < whats; what++) {
                note(all, name, thing, what);
            }
        }
    }

    /** Takes one thing after the other, whatever it is, until the tray is empty or missing. */
    private void unload(StringBuilder all, int tray) {
        int kind = 0;
        int top = call("take", tray, kind);
        for (int tries = 0; tries < 30 && top != MeterDesk.EMPTY && top != MeterDesk.NULL; tries++) {
            if (top != MeterDesk.CAST) {
                all.append("tray ").append(tray).append(" had ").append(top).append(" of kind ").append(kind).append('\n');
            }
            kind = top == MeterDesk.CAST ? (kind + 1) % 3 : kind;
            top = call("take", tray, kind);
        }
        all.append("tray ").append(tray).append(" ends with ").append(top).append('\n');
    }

    private void unwind(StringBuilder all) {
        int left = call("undo");
        for (int tries = 0; tries < 20 && left != MeterDesk.NOT; tries++) {
            all.append("undo() = ").append(left).append('\n');
            standing(all);
            left = call("undo");
        }
    }

    private void standing(StringBuilder all) {
        note(all, "count", 2);
        note(all, "count", 4);
        note(all, "count", 6);
        note(all, "count", 8);
    }
}
