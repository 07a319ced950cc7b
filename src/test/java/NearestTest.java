import java.util.Random;

/**
 * Two solids as large as the document lets them be, brought together from afar: just where they begin to clash, and one
 * less and one more from there, each answer is compared with the model's, which takes its roots to eighty digits.
 */
final class NearestTest {
    private static final int FARTHEST = 10_000;
    private static final long[][] TRIPLES = {{3, 4, 5}, {5, 12, 13}, {8, 15, 17}, {7, 24, 25}, {20, 21, 29}};

    private static int touching = 0;

    public static void main(String[] args) {
        Random dice = new Random(512);
        int found = 0;
        for (int i = 0; i < 3200; i++) {
            found += bringTogether(dice, i % 16 / 4, i % 4) ? 1 : 0;
        }
        Due.yes("most came together, " + found, found > 2000);
        for (int i = 0; i < 2000; i++) {
            slantedTouch(dice, TRIPLES[i % TRIPLES.length], i % 2 == 0);
        }
        Due.yes("many touched, " + touching, touching > 2000);
        Due.end();
    }

    private static void tell(Run x, Random dice, int body, int kind) {
        long d = 1 + dice.nextInt(5000);
        long z = dice.nextInt(5001 - (int) d);
        switch (kind) {
            case 0 -> {
                long w = 1 + dice.nextInt(5000);
                long h = 1 + dice.nextInt(5000);
                x.due(1, "box", body, dice.nextInt(10001 - (int) w) - 5000, dice.nextInt(10001 - (int) h) - 5000, z, w, h, d);
            }
            case 1 -> x.due(1, "cylinder", body, place(dice), place(dice), z, 1 + dice.nextInt(5000), d);
            case 2 -> prism(x, dice, body, z, d);
            default -> tube(x, dice, body);
        }
    }

    private static long place(Random dice) {
        return dice.nextInt(10001) - 5000;
    }

    private static void prism(Run x, Random dice, int body, long z, long d) {
        long answer;
        do {
            // Random places seldom go to the left around all the way; they are told until some do.
            int corners = 3 + dice.nextInt(2);
            for (int i = 0; i < corners; i++) {
                x.due(1, "corner", place(dice), place(dice));
            }
            answer = x.call("prism", body, z, d);
        } while (answer == 0 && x.callsLeft() > 100);
    }

    private static void tube(Run x, Random dice, int body) {
        int axis = dice.nextInt(3);
        long r = 1 + dice.nextInt(500);
        long[] from = {place(dice), place(dice), r + dice.nextInt(5001 - (int) r)};
        long to = axis == 2 ? r + dice.nextInt(5001 - (int) r) : place(dice);
        x.due(1, "tube", body, r, from[0], from[1], from[2], axis, to - from[axis]);
    }

    /** Whether they clash anywhere on the way; where they begin to is sought by halving. */
    private static boolean bringTogether(Random dice, int kindA, int kindB) {
        Run x = new Run(0);
        x.due(0, "body");
        x.due(1, "body");
        tell(x, dice, 0, kindA);
        tell(x, dice, 1, kindB);
        x.due(0, "place", 0, 0, 0, dice.nextInt(4), 0);
        int turn = dice.nextInt(4);
        x.due(1, "place", 1, 0, 0, turn, 0);
        long y = between(x, 1) + dice.nextInt(2001) - 1000;
        long near = Math.max(-FARTHEST, Math.min(FARTHEST, between(x, 0)));
        y = Math.max(-FARTHEST, Math.min(FARTHEST, y));
        long far = dice.nextBoolean() ? FARTHEST : -FARTHEST;
        if (at(x, near, y, turn) != 1 || at(x, far, y, turn) == 1) {
            return false;
        }
        while (Math.abs(far - near) > 1) {
            long middle = (far + near) / 2;
            if (at(x, middle, y, turn) == 1) {
                near = middle;
            } else {
                far = middle;
            }
        }
        at(x, Math.max(-FARTHEST, Math.min(FARTHEST, 2 * far - near)), y, turn);
        return true;
    }

    /** How far the middle of placement 1 is to go to lie in the middle of 0. */
    private static long between(Run x, int axis) {
        return (x.call("bound", 0, axis) + x.call("bound", 0, axis + 3) - x.call("bound", 1, axis) - x.call("bound", 1, axis + 3)) / 2;
    }

    private static long at(Run x, long px, long py, int turn) {
        x.call("move", 1, px, py, turn, 0);
        long found = x.call("clash", 0, 1);
        touching += found == 2 ? 1 : 0;
        return found;
    }

    /** A round thing just as far from a slanted side as it is thick: they touch, and no longer when it goes by one. */
    private static void slantedTouch(Random dice, long[] triple, boolean disc) {
        Run x = new Run(0);
        long a = triple[0];
        long b = triple[1];
        long c = triple[2];
        long times = 1 + dice.nextInt((int) (5000 / b));
        long radius = c * (1 + dice.nextInt((int) (500 / c)));
        x.due(0, "body");
        x.due(1, "body");
        // The side goes from 0, 0 to a, b times so much; what is to its left is the prism's.
        x.due(1, "corner", 0, 0);
        x.due(1, "corner", a * times, b * times);
        x.due(1, "corner", -b * times, a * times);
        x.due(1, "prism", 0, 0, 1000);
        if (disc) {
            x.due(1, "cylinder", 1, 0, 0, 999, radius, 1);
        } else {
            x.due(1, "tube", 1, radius, 0, 0, 600, 2, 300);
        }
        // From the side's middle on to the right by the radius: b and -a, so often that it is whole.
        long part = radius / c;
        long px = (a * times) / 2 + b * part;
        long py = (b * times) / 2 - a * part;
        if (a * times % 2 != 0 || b * times % 2 != 0) {
            px = a * times + b * part;
            py = b * times - a * part;
        }
        x.due(0, "place", 0, 0, 0, 0, 0);
        x.due(1, "place", 1, px, py, 0, 0);
        x.due(2, "clash", 0, 1);
        touching++;
        x.due(1, "move", 1, px + 1, py, 0, 0);
        x.due(0, "clash", 0, 1);
        x.due(1, "move", 1, px, py + 1, 0, 0);
        x.call("clash", 0, 1);
        x.due(1, "move", 1, px - 1, py, 0, 0);
        x.due(1, "clash", 0, 1);
    }
}
