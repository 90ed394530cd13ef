import java.util.ArrayList;
import java.util.List;
import java.util.function.Consumer;

/** Steps that lead to some state; each question is asked of a new object that went these steps alone. */
final class Case {
    private final List<Consumer<Desk>> steps = new ArrayList<>();
    private String untouched = null;

    /** A new object that was told one text after the other. */
    Case(String... texts) {
        for (String text : texts) {
            steps.add(desk -> desk.tell(text));
        }
    }

    Case typed(String text) {
        return step(desk -> desk.type(text));
    }

    Case told(String text) {
        return step(desk -> desk.tell(text));
    }

    /** A call that is not refused here. */
    Case then(String name, int... numbers) {
        return step(desk -> Sentences.expect(desk.call(name, numbers) >= MeterDesk.NONE,
            "refused on the way: " + Desk.shown(name, numbers)));
    }

    private Case step(Consumer<Desk> step) {
        steps.add(step);
        untouched = null;
        return this;
    }

    Desk open() {
        Desk desk = new Desk();
        for (Consumer<Desk> step : steps) {
            step.accept(desk);
        }
        return desk;
    }

    Case due(int want, String name, int... numbers) {
        open().due(want, name, numbers);
        return this;
    }

    /** Refused, and nothing changes. */
    Case refused(int want, String name, int... numbers) {
        sameBehind(open().due(want, name, numbers), Desk.shown(name, numbers));
        return this;
    }

    /** The same, for each of some numbers in the place of the first. */
    Case refusedFirst(int want, int[] first, String name, int... others) {
        for (int number : first) {
            int[] numbers = new int[others.length + 1];
            numbers[0] = number;
            System.arraycopy(others, 0, numbers, 1, others.length);
            refused(want, name, numbers);
        }
        return this;
    }

    /** The same, for each of some numbers in the last place. */
    Case refusedLast(int want, int[] last, String name, int... others) {
        for (int number : last) {
            int[] numbers = new int[others.length + 1];
            System.arraycopy(others, 0, numbers, 0, others.length);
            numbers[others.length] = number;
            refused(want, name, numbers);
        }
        return this;
    }

    /** A call that changes nothing, answered or not. */
    Case quiet(int want, String name, int... numbers) {
        return refused(want, name, numbers);
    }

    private void sameBehind(Desk touched, String call) {
        if (untouched == null) {
            untouched = open().picture();
        }
        String after = touched.picture();
        Sentences.expect(after.equals(untouched), call + " changed something:\n" + firstChange(untouched, after));
    }

    private static String firstChange(String before, String after) {
        String[] old = before.split("\n");
        String[] now = after.split("\n");
        for (int i = 0; i < old.length && i < now.length; i++) {
            if (!old[i].equals(now[i])) {
                return "  without it " + old[i] + ", behind it " + now[i];
            }
        }
        return "  one goes on further";
    }
}
