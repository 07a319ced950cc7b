import java.lang.reflect.InvocationTargetException;
import java.lang.reflect.Method;
import java.util.Arrays;
import java.util.Comparator;
import java.util.Random;

/**
 * Any calls with any arguments: nothing is thrown but what the face declares, by the class's own throw statements,
 * and two objects with the same calls answer the same; what only asks changes no later answer.
 */
final class FuzzTest {
    private static final long[] EDGES = {
        0, 1, -1, 2, 3, 4, 5, 8, 500, 501, 4999, 5000, 5001, -4999, -5000, -5001, 10000, 10001, -10000, -10001, 20000, 20001, -20000,
        -20001, Integer.MAX_VALUE, Integer.MIN_VALUE, Long.MAX_VALUE, Long.MIN_VALUE,
    };
    private static final int[] NUMBERS = {0, 0, 0, 1, 1, 2, 3, 4, 5, 6, 11, 12, 29, 30, 31, -1, Integer.MAX_VALUE, Integer.MIN_VALUE};

    public static void main(String[] args) throws IllegalAccessException {
        Method[] face = face();
        Random dice = new Random(7);
        int[] answered = new int[face.length];
        for (int run = 0; run < 300; run++) {
            long thickness = EDGES[dice.nextInt(EDGES.length)];
            BodySolids one = new BodySolids(thickness);
            BodySolids other = new BodySolids(thickness);
            for (int call = 0; call < 512; call++) {
                int which = dice.nextInt(face.length);
                Object[] told = arguments(dice, face[which]);
                String first = answer(one, face[which], told);
                boolean asks = isAsking(face[which]);
                String second = asks && dice.nextInt(2) == 0 ? first : answer(other, face[which], told);
                Due.yes(face[which].getName() + Arrays.toString(told) + ": " + first + " or " + second, first.equals(second));
                answered[which] += first.startsWith("throws") ? 0 : 1;
            }
        }
        for (int i = 0; i < face.length; i++) {
            Due.yes(face[i].getName() + " has answered often", answered[i] > 200);
        }
        Due.end();
    }

    private static Method[] face() {
        Method[] all = BodySolids.class.getMethods();
        Method[] own = Arrays.stream(all).filter(m -> m.getDeclaringClass() == BodySolids.class).toArray(Method[]::new);
        // The machine tells them in no order, and the dice must fall the same each time.
        Arrays.sort(own, Comparator.comparing(Method::getName));
        return own;
    }

    private static boolean isAsking(Method method) {
        return Arrays.asList("clash", "clashes", "pair", "breaks", "bound", "section", "mass").contains(method.getName());
    }

    private static Object[] arguments(Random dice, Method method) {
        Class<?>[] types = method.getParameterTypes();
        Object[] told = new Object[types.length];
        // Mostly such as are taken, so that there is something to ask about.
        boolean tame = dice.nextInt(4) > 0;
        for (int i = 0; i < types.length; i++) {
            if (types[i] == int.class) {
                told[i] = tame ? dice.nextInt(4) : NUMBERS[dice.nextInt(NUMBERS.length)];
            } else {
                told[i] = tame ? Long.valueOf(dice.nextInt(9)) : Long.valueOf(EDGES[dice.nextInt(EDGES.length)]);
            }
        }
        return told;
    }

    private static String answer(BodySolids object, Method method, Object[] told) throws IllegalAccessException {
        try {
            return String.valueOf(method.invoke(object, told));
        } catch (InvocationTargetException e) {
            Throwable thrown = e.getCause();
            boolean declared = Arrays.asList(method.getExceptionTypes()).contains(thrown.getClass());
            Due.yes(method.getName() + Arrays.toString(told) + " threw " + thrown, declared && Due.isOfItsOwn(thrown));
            return "throws." + thrown.getClass().getSimpleName();
        }
    }
}
