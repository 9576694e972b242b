import java.lang.reflect.InvocationTargetException;
import java.lang.reflect.Method;
import java.util.ArrayList;
import java.util.Arrays;
import java.util.HashMap;
import java.util.List;
import java.util.Map;

/** A new object and the calls on it; a call whose answer is not the one that is due is told to Check. */
final class Run {
    private static final int CALLS = 512;
    private static final long NO_ANSWER = Long.MAX_VALUE;
    private static final Map<String, Method> METHODS = methods();

    private final DebtLamps lamps = new DebtLamps();
    private int calls = 0;

    private static Map<String, Method> methods() {
        Map<String, Method> found = new HashMap<>();
        for (Method m : DebtLamps.class.getMethods()) {
            if (m.getDeclaringClass() == DebtLamps.class) found.put(m.getName(), m);
        }
        return found;
    }

    static int argumentsOf(String name) {
        return METHODS.get(name).getParameterCount();
    }

    /** A new object whose town is told in sheet 0, a row of bytes. */
    static Run ofTown(String text) {
        Run x = new Run();
        x.readText(text);
        return x;
    }

    void readText(String text) {
        writeText(0, 0, text);
        due(text.charAt(1) - '0', "town", 0, 0, 0, text.length());
    }

    /** What town answers to a text in sheet 0 that needs not be one. */
    void dueOfText(long want, String text) {
        writeText(0, 0, text);
        long got = ask("town", 0, 0, 0, text.length());
        if (got != want) Check.wrong("text " + text + " answered " + got + ", due is " + want);
    }

    void writeText(int k, int lane, String text) {
        write(k, lane, text.chars().toArray());
    }

    void write(int k, int lane, int... numbers) {
        due(1, "sheet", k, lane, numbers.length);
        for (int i = 0; i < numbers.length; i++) due(1, "put", k, i, numbers[i]);
    }

    void dueCells(int k, int lane, int... want) {
        for (int i = 0; i < want.length; i++) due(want[i], "cell", k, i, lane);
    }

    /** A fault is answered and told by fault(). */
    void dueFault(int answer, String name, int... args) {
        due(answer, name, args);
        due(-10 - answer, "fault");
    }

    void due(long want, String name, int... args) {
        long got = ask(name, args);
        if (got != want) Check.wrong(told(name, args) + " answered " + got + ", due is " + want);
    }

    long ask(String name, int... args) {
        calls++;
        // What is answered later is free, so a test that goes on would test nothing.
        if (calls > CALLS) Check.wrong(told(name, args) + " is call " + calls);
        Object[] given = new Object[args.length];
        for (int k = 0; k < args.length; k++) given[k] = args[k];
        try {
            return ((Number) METHODS.get(name).invoke(lamps, given)).longValue();
        } catch (InvocationTargetException e) {
            Check.wrong(told(name, args) + " threw " + e.getCause());
        } catch (IllegalAccessException e) {
            Check.wrong(told(name, args) + " can't be called");
        }
        return NO_ANSWER;
    }

    int callsLeft() {
        return CALLS - calls;
    }

    /** All that can be seen of the object, but fault(). */
    List<Long> seen() {
        List<Long> all = new ArrayList<>();
        for (int what = 0; what < 4; what++) all.add(ask("many", what));
        int people = (int) ask("many", 0);
        for (int a = 0; a < people; a++) {
            all.add(ask("ofPerson", a, 0));
            all.add(ask("kinds", a));
            for (int b = 0; b < people; b++) {
                all.add(ask("owes", a, b));
                all.add(ask("debts", a, b));
            }
        }
        all.add(ask("bells"));
        all.add(ask("trace"));
        for (int k = 0; k < 4; k++) seenOfSheet(k, all);
        return all;
    }

    private void seenOfSheet(int k, List<Long> all) {
        for (int lane = 0; lane < 3; lane++) {
            for (int i = 0; i <= 60; i++) {
                long cell = ask("cell", k, i, lane);
                long fault = ask("fault");
                all.add(cell);
                all.add(fault);
                if (fault != 0) break;
            }
        }
    }

    static String told(String name, int... args) {
        String list = Arrays.toString(args);
        return name + "(" + list.substring(1, list.length() - 1) + ")";
    }
}
