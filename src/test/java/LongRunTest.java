/**
 * Whole runs of 512 calls on one object with 30 bodies of 12 solids each, 30 placements, 10 keep-outs and eight corners
 * told, promise by promise, with answers reckoned by hand (and, by Run, with the model's).
 */
final class LongRunTest {
    private static final long NONE = -1;
    private static final int THICKNESS = 7;
    private static final long MASS_OF_ONE = 5424 + 14200 + 5424 + 3550 + 226;
    private static final long MASS_OF_OTHER = 1808 + 710 + 904 + 2130 + 1356 + 14200;
    private static final long[] BOUNDS = {0, -2, 0, 62, 12, 9};
    private static final long[][] EIGHT = {{1, 0}, {2, 0}, {3, 1}, {3, 2}, {2, 3}, {1, 3}, {0, 2}, {0, 1}};

    public static void main(String[] args) {
        refusedWhenFull();
        wrongWhenFull();
        firstBeyondWhenFull();
        cornersWhenFull();
        movesWhenFull();
        clashesWhenFull();
        allClash();
        breaksWhenFull();
        boundsWhenFull();
        sectionsWhenFull();
        Due.end();
    }

    /** Six solids, one of each kind at least; the calls are nine: three are corners. */
    private static void tellOne(Run x, int body) {
        x.due(1, "box", body, 0, 0, 0, 4, 3, 2);
        x.due(1, "cylinder", body, 20, 0, 0, 2, 5);
        triangle(x, 30, 0, 4, 3);
        x.due(1, "prism", body, 1, 4);
        x.due(1, "tube", body, 1, 40, 0, 1, 0, 5);
        x.due(1, "box", body, 50, 0, 3, 1, 1, 1);
        x.due(1, "tube", body, 2, 60, 0, 2, 2, 0);
    }

    private static void tellOther(Run x, int body) {
        x.due(1, "box", body, 0, 10, 0, 2, 2, 2);
        x.due(1, "cylinder", body, 20, 10, 0, 1, 1);
        triangle(x, 30, 10, 2, 2);
        x.due(1, "prism", body, 0, 2);
        x.due(1, "tube", body, 1, 40, 10, 1, 1, -3);
        x.due(1, "box", body, 50, 10, 0, 1, 1, 6);
        x.due(1, "tube", body, 2, 60, 10, 2, 2, 5);
    }

    private static void triangle(Run x, long left, long low, long w, long h) {
        x.due(1, "corner", left, low);
        x.due(1, "corner", left + w, low);
        x.due(1, "corner", left, low + h);
    }

    /** Where placement p stands in a grid whose fields are wider than a body. */
    private static long gridX(long p) {
        return 100 * (p % 6);
    }

    private static long gridY(long p) {
        return 60 * (p / 6);
    }

    /** Bodies 0 and 2 to 29 begin with 'one', 1 with 'other'; each has both, 12 solids in all; placement p is of body p. */
    private static Run full() {
        Run x = new Run(THICKNESS);
        x.due(0, "body");
        x.due(1, "body");
        tellOne(x, 0);
        tellOther(x, 1);
        for (int i = 2; i < 30; i++) {
            x.due(i, "join", 0, 1);
        }
        tellOther(x, 0);
        tellOne(x, 1);
        for (int i = 0; i < 30; i++) {
            x.due(i, "place", i, gridX(i), gridY(i), 0, 0);
        }
        for (int i = 0; i < 10; i++) {
            x.due(1, "keepOut", 48 + gridX(i), 8 + gridY(i), 52 + gridX(i), 12 + gridY(i), i % 2, i);
        }
        for (long[] place : EIGHT) {
            x.due(1, "corner", place[0], place[1]);
        }
        return x;
    }

    /** Nothing has changed: a few answers of each kind, and the last calls of the run are used up so. */
    private static void isAsItWas(Run x) {
        for (int i = 0; x.callsLeft() > 0; i++) {
            int number = i * 7 % 30;
            switch (i % 8) {
                case 0 -> x.due(MASS_OF_ONE + MASS_OF_OTHER, "mass", number);
                case 1 -> x.due(0, "clashes");
                case 2 -> x.due(BOUNDS[i / 8 % 6] + (i / 8 % 3 == 0 ? gridX(number) : i / 8 % 3 == 1 ? gridY(number) : 0),
                        "bound", number, i / 8 % 6);
                case 3 -> x.due(0, "clash", number, 29 - number);
                // The height of 5 is in 'other's box alone; keep-outs 0, 2 and 4 are on this side and lower than 6.
                case 4 -> x.due(number, "section", 5, number, 0);
                case 5 -> x.due(new long[] {0, 2, 4, NONE}[i / 8 % 4], "breaks", i / 8 % 4);
                case 6 -> x.due(NONE, "pair", number, i / 8 % 2);
                default -> x.due(0, "corner", number, number);
            }
        }
    }

    /** Promises 2 to 9 and 14: there is no room for more, and nothing comes of asking for it, over and over. */
    private static void refusedWhenFull() {
        Run x = full();
        for (int i = 0; i < 28; i++) {
            x.due(NONE, "body");
            x.due(0, "box", i, 0, 0, 0, 1, 1, 1);
            x.due(0, "cylinder", i + 1, 0, 0, 0, 1, 1);
            x.due(0, "corner", i, i);
            x.due(0, "prism", i + 2, 0, 1);
            x.due(0, "tube", i, 1, 0, 0, 1, i % 3, 1);
            x.due(NONE, "join", i, i + 1);
            x.due(NONE, "place", i, 0, 0, 0, 0);
            x.due(0, "keepOut", 0, 0, 1, 1, i % 2, 0);
        }
        isAsItWas(x);
    }

    /** What the document wants thrown is thrown in a full object, too, before it says that there is no room. */
    private static void wrongWhenFull() {
        Run x = full();
        x.due(Run.INDEX, "pair", 0, 2);
        x.due(Run.INDEX, "bound", 0, 6);
        x.due(Run.INDEX, "section", 1, 0, 6);
        for (long none : new long[] {30, -1, Integer.MAX_VALUE, Integer.MIN_VALUE}) {
            x.due(Run.INDEX, "box", none, 0, 0, 0, 1, 1, 1);
            x.due(Run.INDEX, "cylinder", none, 0, 0, 0, 1, 1);
            x.due(Run.INDEX, "prism", none, 0, 1);
            x.due(Run.INDEX, "tube", none, 1, 0, 0, 1, 0, 1);
            x.due(Run.INDEX, "join", none, 0);
            x.due(Run.INDEX, "join", 0, none);
            x.due(Run.INDEX, "place", none, 0, 0, 0, 0);
            x.due(Run.INDEX, "move", none, 0, 0, 0, 0);
            x.due(Run.INDEX, "clash", none, 29);
            x.due(Run.INDEX, "clash", 29, none);
            x.due(Run.INDEX, "clash", none, none);
            x.due(Run.INDEX, "pair", 0, none);
            x.due(Run.INDEX, "bound", none, 0);
            x.due(Run.INDEX, "bound", 29, none);
            x.due(Run.INDEX, "section", 1, 0, none);
            x.due(Run.INDEX, "mass", none);
        }
        for (long far : new long[] {20001, -20001, Long.MAX_VALUE, Long.MIN_VALUE}) {
            x.due(Run.ARGUMENT, "box", 29, far, 0, 0, 1, 1, 1);
            x.due(Run.ARGUMENT, "cylinder", 29, 0, 0, 0, far, 1);
            x.due(Run.ARGUMENT, "corner", 0, far);
            x.due(Run.ARGUMENT, "prism", 29, far, 1);
            x.due(Run.ARGUMENT, "tube", 29, 1, 0, 0, 1, 0, far);
            x.due(Run.ARGUMENT, "place", 29, far, 0, 0, 0);
            x.due(Run.ARGUMENT, "move", 29, 0, far, 0, 0);
            x.due(Run.ARGUMENT, "keepOut", 0, 0, 1, 1, 0, far);
            x.due(NONE, "section", far, 0, 0);
        }
        isAsItWas(x);
    }

    /** The first value beyond each end, of each argument, one by one. */
    private static void firstBeyondWhenFull() {
        Run x = full();
        beyond(x, "box", new long[] {0, 0, 0, 0, 1, 1, 1}, new long[][] {
            {1, -5001}, {1, 5000}, {2, -5001}, {2, 5000}, {3, -1}, {3, 5000}, {4, 0}, {4, 5001}, {5, 0}, {5, 5001}, {6, 0}, {6, 5001}});
        beyond(x, "box", new long[] {29, 1, 1, 1, 1, 1, 1}, new long[][] {{4, 5000}, {5, 5000}, {6, 5000}});
        beyond(x, "cylinder", new long[] {1, 0, 0, 0, 1, 1}, new long[][] {
            {1, -5001}, {1, 5001}, {2, -5001}, {2, 5001}, {3, -1}, {3, 5000}, {4, 0}, {4, 5001}, {5, 0}, {5, 5001}});
        beyond(x, "cylinder", new long[] {28, 0, 0, 1, 1, 1}, new long[][] {{5, 5000}});
        beyond(x, "corner", new long[] {0, 0}, new long[][] {{0, -5001}, {0, 5001}, {1, -5001}, {1, 5001}});
        beyond(x, "prism", new long[] {2, 0, 1}, new long[][] {{1, -1}, {1, 5000}, {2, 0}, {2, 5001}});
        beyond(x, "prism", new long[] {27, 1, 1}, new long[][] {{2, 5000}});
        beyond(x, "tube", new long[] {3, 1, 0, 0, 1, 0, 0}, new long[][] {
            {1, 0}, {2, -5001}, {2, 5001}, {3, -5001}, {3, 5001}, {4, 0}, {4, 5001}, {5, -1}, {5, 3}, {6, -5001}, {6, 5001}});
        beyond(x, "tube", new long[] {3, 500, 0, 0, 600, 0, 0}, new long[][] {{1, 501}, {4, 499}});
        beyond(x, "tube", new long[] {3, 9, 0, 0, 10, 1, 0}, new long[][] {{6, -5001}, {6, 5001}});
        beyond(x, "tube", new long[] {3, 9, 0, 0, 10, 2, 0}, new long[][] {{6, -2}, {6, 4991}});
        beyond(x, "tube", new long[] {3, 9, -5000, 0, 10, 0, 0}, new long[][] {{6, -1}, {6, 10001}});
        for (String name : new String[] {"place", "move"}) {
            beyond(x, name, new long[] {4, 0, 0, 0, 0}, new long[][] {
                {1, -10001}, {1, 10001}, {2, -10001}, {2, 10001}, {3, -1}, {3, 4}, {4, -1}, {4, 2}});
        }
        beyond(x, "keepOut", new long[] {0, 0, 1, 1, 0, 0}, new long[][] {
            {0, -20001}, {0, 1}, {0, 2}, {1, -20001}, {1, 1}, {1, 2}, {2, 0}, {2, -1}, {2, 20001}, {3, 0}, {3, -1}, {3, 20001},
            {4, -1}, {4, 2}, {5, -1}, {5, 20001}});
        isAsItWas(x);
    }

    /** The call throws with any one of the arguments changed as told: its number and the value. */
    private static void beyond(Run x, String name, long[] told, long[][] changes) {
        for (long[] change : changes) {
            long[] changed = told.clone();
            changed[(int) change[0]] = change[1];
            x.due(Run.ARGUMENT, name, changed);
        }
    }

    /** Promises 5 and 6: the eight stay while the bodies are full and while it throws. */
    private static void cornersWhenFull() {
        Run x = full();
        for (int i = 0; i < 30; i++) {
            x.due(0, "prism", i, 0, 1);
            x.due(Run.ARGUMENT, "prism", i, -1, 1);
            x.due(Run.INDEX, "prism", i + 30, 0, 1);
            x.due(0, "corner", 0, 0);
        }
        isAsItWas(x);
    }

    /** Promise 10: each placement goes to its other side and back, and each move says whether something is otherwise. */
    private static void movesWhenFull() {
        Run x = full();
        for (int i = 0; i < 30; i++) {
            x.due(0, "move", i, gridX(i), gridY(i), 0, 0);
            x.due(1, "move", i, gridX(i) + 62, gridY(i), 0, 1);
            x.due(gridX(i), "bound", i, 0);
            x.due(0, "move", i, gridX(i) + 62, gridY(i), 0, 1);
            x.due(-THICKNESS - 9, "bound", i, 2);
            x.due(-THICKNESS, "bound", i, 5);
        }
        x.due(0, "clashes");
        x.due(NONE, "section", 5, 0, 0);
        x.due(29, "section", -THICKNESS - 5, 29, 0);
        // What is at 50 has gone to 12 by the mirror, out of the keep-outs of the other side.
        x.due(NONE, "breaks", 0);
        for (int i = 0; i < 30; i++) {
            x.due(1, "move", i, gridX(i), gridY(i), 0, 0);
        }
        isAsItWas(x);
    }

    /** Promises 11 to 13: one placement goes through the row of the others; its pair is found and lost again. */
    private static void clashesWhenFull() {
        Run x = full();
        for (int i = 0; i < 29; i++) {
            x.due(1, "move", 29, gridX(i) + 1, gridY(i), 0, 0);
            x.due(1, "clash", i, 29);
            x.due(1, "clash", 29, i);
            x.due(1, "clashes");
            x.due(i, "pair", 0, 0);
            x.due(29, "pair", 0, 1);
            x.due(NONE, "pair", 1, 0);
            // Its ball only touches the upright tube of the other one there, at 60, 12 and a height of 2.
            x.due(1, "move", 29, gridX(i), gridY(i) + 14, 0, 0);
            x.due(2, "clash", i, 29);
            x.due(0, "clashes");
        }
        x.due(1, "move", 29, gridX(0), gridY(0) + 13, 0, 0);
        x.due(1, "clash", 0, 29);
        x.due(1, "move", 29, gridX(0), gridY(0) + 15, 0, 0);
        x.due(0, "clash", 0, 29);
        x.due(0, "clash", 29, 29);
        x.due(1, "move", 29, gridX(29), gridY(29), 0, 0);
        isAsItWas(x);
    }

    /** All 30 at one place: 435 pairs, each of which is told in its order. */
    private static void allClash() {
        Run x = full();
        for (int i = 0; i < 30; i++) {
            x.due(i == 0 ? 0 : 1, "move", i, 0, 0, 0, 0);
        }
        x.due(435, "clashes");
        int a = 0;
        int b = 0;
        for (int k = 0; k < 435; k++) {
            b++;
            if (b == 30) {
                a++;
                b = a + 1;
            }
            if (k % 3 == 0 || k > 400) {
                x.due(a, "pair", k, 0);
                x.due(b, "pair", k, 1);
            }
        }
        x.due(NONE, "pair", 435, 0);
        x.due(NONE, "pair", -1, 1);
        while (x.callsLeft() > 0) {
            x.due(435, "clashes");
        }
    }

    /** Promise 15: all that break one, in their order, as the one keep-out that matters is left and entered. */
    private static void breaksWhenFull() {
        Run x = full();
        // Keep-out 0 lies over 48 .. 52, 8 .. 12, from the board on: the box at 50, 10 is in it.
        for (int i = 0; i < 30; i++) {
            x.due(i == 0 ? 0 : 1, "move", i, 0, 0, 0, 0);
        }
        for (int k = 0; k < 30; k++) {
            x.due(k, "breaks", k);
        }
        for (int i = 29; i >= 0; i--) {
            // The box's left end and the rectangle's right one are the same: no inner points are over its inside.
            x.due(1, "move", i, 2, 0, 0, 0);
            x.due(NONE, "breaks", i);
            x.due(i == 0 ? NONE : i - 1, "breaks", i - 1);
        }
        x.due(NONE, "breaks", 0);
        x.due(1, "move", 17, 1, 0, 0, 0);
        while (x.callsLeft() > 1) {
            x.due(17, "breaks", 0);
        }
        x.due(NONE, "breaks", 1);
    }

    /** Promise 16: the six bounds of each, turned. */
    private static void boundsWhenFull() {
        Run x = full();
        for (int i = 0; i < 30; i++) {
            x.due(1, "move", i, gridX(i), -9000, 1, 0);
            long[] turned = {gridX(i) - 12, -9000, 0, gridX(i) + 2, -9000 + 62, 9};
            for (int what = 0; what < 6; what++) {
                x.due(turned[what], "bound", i, what);
            }
        }
        for (int i = 0; i < 30; i++) {
            x.due(1, "move", i, gridX(i), gridY(i), 0, 0);
        }
        isAsItWas(x);
    }

    /** Promise 17: at a height of 1 there are two boxes, 'one's cylinder and 'other's prism and tall box of each placement. */
    private static void sectionsWhenFull() {
        Run x = full();
        long[] numbers = {0, 1, 6, 8, 10};
        long[][] ends = {{0, 0, 4, 3}, {18, -2, 22, 2}, {0, 10, 2, 12}, {30, 10, 32, 12}, {50, 10, 51, 11}};
        for (int k = 0; k < 150; k += 4) {
            int p = k / 5;
            // Body 1 has its two halves the other way round, so its order is another.
            if (p == 1) {
                continue;
            }
            x.due(p, "section", 1, k, 0);
            x.due(numbers[k % 5], "section", 1, k, 1);
            x.due(gridX(p) + ends[k % 5][0], "section", 1, k, 2);
            x.due(gridY(p) + ends[k % 5][1], "section", 1, k, 3);
            x.due(gridX(p) + ends[k % 5][2], "section", 1, k, 4);
            x.due(gridY(p) + ends[k % 5][3], "section", 1, k, 5);
        }
        x.due(NONE, "section", 1, 150, 0);
        x.due(NONE, "section", 1, -1, 0);
        x.due(2, "section", 1, 6, 1);
        x.due(gridX(1) + 30, "section", 1, 6, 2);
        isAsItWas(x);
    }
}
