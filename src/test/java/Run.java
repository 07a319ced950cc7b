import java.lang.reflect.InvocationTargetException;
import java.lang.reflect.Method;
import java.util.Arrays;
import java.util.HashMap;
import java.util.Map;

/** One run of at most 512 calls, each made on the class and on the model alike, whose answers must be the same. */
final class Run {
    static final int MOST_CALLS = 512;
    // Far from every number that a call can answer.
    static final long INDEX = Long.MIN_VALUE;
    static final long ARGUMENT = Long.MIN_VALUE + 1;
    static final long STATE = Long.MIN_VALUE + 2;
    private static final long STRANGE = Long.MIN_VALUE + 3;

    private static final Map<String, Method> FACE = methods(BodySolids.class);
    private static final Map<String, Method> MODEL = methods(Model.class);

    private final BodySolids asked;
    private final Model model;
    private int calls = 0;

    Run(long thickness) {
        asked = new BodySolids(thickness);
        model = new Model(thickness);
    }

    private static Map<String, Method> methods(Class<?> of) {
        Map<String, Method> found = new HashMap<>();
        for (Method method : of.getDeclaredMethods()) {
            found.put(method.getName() + method.getParameterCount(), method);
        }
        return found;
    }

    int callsLeft() {
        return MOST_CALLS - calls;
    }

    /** What the class answers: true as 1, false as 0, an exception as one of the numbers above. */
    long call(String name, long... told) {
        calls++;
        Due.yes("a run has at most 512 calls", calls <= MOST_CALLS);
        long got = answer(asked, FACE.get(name + told.length), told);
        Due.is("call " + calls + ", " + name + Arrays.toString(told) + ", beside the model's answer", got,
                answer(model, MODEL.get(name + told.length), told));
        return got;
    }

    /** The same, where the test itself says what is due. */
    void due(long due, String name, long... told) {
        Due.is("call " + (calls + 1) + ", " + name + Arrays.toString(told), call(name, told), due);
    }

    private static long answer(Object of, Method method, long[] told) {
        Object[] arguments = new Object[told.length];
        Class<?>[] types = method.getParameterTypes();
        for (int i = 0; i < told.length; i++) {
            if (types[i] == int.class) {
                arguments[i] = (int) told[i];
            } else {
                arguments[i] = told[i];
            }
        }
        try {
            Object found = method.invoke(of, arguments);
            return found instanceof Boolean ? ((Boolean) found ? 1 : 0) : ((Number) found).longValue();
        } catch (InvocationTargetException e) {
            boolean own = of instanceof Model || Due.isOfItsOwn(e.getCause());
            return own ? number(e.getCause()) : STRANGE;
        } catch (IllegalAccessException e) {
            return STRANGE;
        }
    }

    private static long number(Throwable thrown) {
        Class<?> kind = thrown.getClass();
        return kind == IndexOutOfBoundsException.class ? INDEX
                : kind == IllegalArgumentException.class ? ARGUMENT
                : kind == IllegalStateException.class ? STATE : STRANGE;
    }
}
