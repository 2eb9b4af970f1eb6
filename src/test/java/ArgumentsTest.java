import java.lang.reflect.InvocationTargetException;
import java.lang.reflect.Method;
import java.util.Arrays;

/**
 * Each call with arguments, with every combination of numbers at and about the edges, the greatest and
 * the least ones too. What it answers, and which exception is thrown if several apply, is the model's
 * answer; what the machine throws by itself is none of the document's exceptions.
 */
public final class ArgumentsTest {
    private static final int LEAST = Integer.MIN_VALUE;
    private static final int MOST = Integer.MAX_VALUE;
    private static final int[] MANY = {LEAST, -150, -101, -10, -4, -3, -2, -1, 0, 1, 2, 3, 4, 5, 8, 9, 10, 11, 13, 14,
        15, 16, 31, 32, 33, 49, 50, 51, 139, 140, 148, 149, 150, MOST};
    private static final int[] SEVERAL = {LEAST, -4, -1, 0, 1, 3, 4, 5, 9, 10, 13, 14, 16, 32, MOST};
    private static final int[] SOME = {LEAST, -4, -3, -2, -1, 0, 1, 3, 4, 9, 10, 14, MOST};
    /** With the calls of the scene and the questions at the end less than the 512 that are promised. */
    private static final int CALLS = 280;

    private static CrowdSimulator crowd;
    private static Model model;
    private static int calls;

    public static void main(String[] args) {
        Check.sentence("If several exceptions apply, the one named first is thrown.");
        Method[] methods = CrowdSimulator.class.getMethods();
        Arrays.sort(methods, (a, b) -> a.getName().compareTo(b.getName()));
        for (Method method : methods) {
            Class<?>[] types = method.getParameterTypes();
            if (method.getDeclaringClass() == CrowdSimulator.class && types.length > 0 && types[0] == int.class) {
                makeScene();
                combine(method, new Object[types.length], 0);
                askAll();
            }
        }
        Check.end("ArgumentsTest");
    }

    private static void combine(Method method, Object[] arguments, int place) {
        if (place == arguments.length) {
            call(method.getName(), method.getParameterTypes(), arguments);
        } else if (method.getParameterTypes()[place] == boolean.class) {
            for (boolean value : new boolean[] {false, true}) {
                arguments[place] = value;
                combine(method, arguments, place + 1);
            }
        } else {
            int[] values = arguments.length < 3 ? MANY : arguments.length == 3 ? SEVERAL : SOME;
            for (int value : values) {
                arguments[place] = value;
                combine(method, arguments, place + 1);
            }
        }
    }

    /** Both are called without end, and so stay the same; an object that is nearly used up is put aside. */
    private static void call(String name, Class<?>[] types, Object[] arguments) {
        if (calls >= CALLS) {
            askAll();
            makeScene();
        }
        calls++;
        ask(name, types, arguments);
    }

    private static void ask(String name, Class<?>[] types, Object... arguments) {
        String got = answerOf(crowd, name, types, arguments);
        Check.same(name + Arrays.toString(arguments), got, answerOf(model, name, types, arguments));
    }

    private static String answerOf(Object object, String name, Class<?>[] types, Object[] arguments) {
        try {
            return "" + object.getClass().getDeclaredMethod(name, types).invoke(object, arguments);
        } catch (InvocationTargetException e) {
            return e.getCause().getClass().getSimpleName();
        } catch (ReflectiveOperationException e) {
            return e.toString();
        }
    }

    /** Agents 0, 1, 3 and 9 to 15 exist; 0 leads 1 and 3; goals 0 and 1 are set; (3, 0) is a wall. */
    private static void makeScene() {
        crowd = new CrowdSimulator();
        model = new Model();
        calls = 0;
        on("setCell", 3, 0, 0);
        on("setCell", 4, 4, 9);
        on("setGoal", 0, 9, 3);
        on("setGoal", 1, 0, 9);
        for (int agent = 0; agent < 16; agent++) {
            on("add", agent % 3, agent / 3, agent % 5 - 1, agent % 10);
        }
        for (int agent = 2; agent < 9; agent++) {
            if (agent != 3) {
                on("remove", agent);
            }
        }
        on("join", 1, 0, 2, 0);
        on("join", 3, 0, -1, 1);
        on("tick", 4);
    }

    private static void on(String name, Integer... arguments) {
        Class<?>[] types = new Class<?>[arguments.length];
        Arrays.fill(types, int.class);
        ask(name, types, (Object[]) arguments);
    }

    /** So that what a refused call has changed is seen. */
    private static void askAll() {
        for (int agent = 0; agent < 16; agent++) {
            for (int what = 0; what < 9; what++) {
                on("agent", agent, what);
            }
        }
        for (int what = 0; what < 5; what++) {
            on("agents", what);
            on("statistic", what);
        }
        for (int change = 0; change < 9; change++) {
            on("undo");
        }
    }
}
