/** Whole runs of 512 calls in which an object grows up to its ends, with answers reckoned by hand (and the model's). */
final class LongGrowthTest {
    private static final long NONE = -1;
    private static final long[][] EIGHT = {{1, 0}, {2, 0}, {3, 1}, {3, 2}, {2, 3}, {1, 3}, {0, 2}, {0, 1}};

    public static void main(String[] args) {
        long[][] thickness = {{Long.MIN_VALUE, 0}, {-1, 0}, {0, 0}, {1, 1}, {999, 999}, {1000, 1000}, {1001, 1000}, {Long.MAX_VALUE, 1000}};
        for (long[] each : thickness) {
            bothSides(each[0], each[1]);
        }
        massesOfOwnSolids();
        cornersOverAndOver();
        joinsUpToThirty();
        bodyGrowsUnderItsPlacements();
        emptyUntilTheLastCall();
        Due.end();
    }

    /** Promises 1 and 9: on side 1 all is below the board, to the run's end; through a board of thickness 0 they touch. */
    private static void bothSides(long told, long thickness) {
        Run x = new Run(told);
        x.due(Run.INDEX, "mass", 0);
        x.due(Run.INDEX, "bound", 0, 0);
        x.due(0, "clashes");
        x.due(0, "body");
        x.due(1, "box", 0, -1, -1, 0, 2, 2, 3);
        for (int i = 0; i < 30; i++) {
            x.due(i, "place", 0, 10 * (i / 2), 0, i % 4, i % 2);
        }
        for (int i = 1; x.callsLeft() > 0; i = i % 29 + 1) {
            x.due(i % 2 == 1 ? -thickness - 3 : 0, "bound", i, 2);
            if (x.callsLeft() > 1) {
                x.due(i % 2 == 1 ? -thickness : 3, "bound", i, 5);
                x.due(thickness == 0 && i % 2 == 1 ? 2 : 0, "clash", i, i - 1);
            }
        }
    }

    /** Promises 3 and 18: 360 boxes, each told by itself, in turn to all bodies; the masses rise with each. */
    private static void massesOfOwnSolids() {
        Run x = new Run(0);
        for (int i = 0; i < 30; i++) {
            x.due(i, "body");
            x.due(i, "place", i, -9000 + 600 * i, 0, 0, 0);
        }
        for (int j = 0; j < 12; j++) {
            for (int i = 0; i < 30; i++) {
                x.due(1, "box", i, 10 * j, 0, j, i + 1, j + 1, 2);
            }
        }
        for (int i = 0; i < 30; i++) {
            x.due(226L * (i + 1) * 78 * 2, "mass", i);
            x.due(0, "box", i, 0, 0, 0, 1, 1, 1);
        }
        x.due(0, "clashes");
        x.due(13, "bound", 29, 5);
        while (x.callsLeft() > 0) {
            x.due(226L * 30 * 78 * 2, "mass", 29);
        }
    }

    /** Promises 5 and 6: such as make no polygon are gone, over and over; none is left for the next prism. */
    private static void cornersOverAndOver() {
        Run x = new Run(0);
        x.due(0, "body");
        for (int i = 0; i < 46; i++) {
            // Nine in a row, of which the last is refused, make no prism, and are gone, 46 times.
            for (int j = 0; j < 9; j++) {
                x.due(j < 8 ? 1 : 0, "corner", j, j);
            }
            x.due(0, "prism", 0, 0, 1);
        }
        for (long[] place : EIGHT) {
            x.due(1, "corner", place[0], place[1]);
        }
        x.due(1, "prism", 0, 0, 1);
        x.due(226 * 7, "mass", 0);
        x.due(1, "corner", 0, 0);
        x.due(1, "corner", 4, 0);
        x.due(0, "prism", 0, 0, 1);
        x.due(1, "corner", 0, 4);
        while (x.callsLeft() > 1) {
            x.due(0, "prism", 0, 0, 1);
        }
        x.due(1, "corner", 0, 0);
    }

    /** Promise 8: what would be more than 12 is none, while there is room and when there is not; empty ones count, too. */
    private static void joinsUpToThirty() {
        Run x = new Run(0);
        int[] solids = {7, 6, 5, 0};
        for (int i = 0; i < 4; i++) {
            x.due(i, "body");
            for (int j = 0; j < solids[i]; j++) {
                x.due(1, "box", i, j, 0, 0, 1, 1, i + 1);
            }
        }
        for (int i = 4; i < 30; i++) {
            x.due(NONE, "join", 0, 1);
            x.due(NONE, "join", 0, 0);
            x.due(Run.INDEX, "join", i, 3);
            x.due(i, "join", i % 3 == 0 ? 0 : 1, i % 3 == 0 ? 2 : i % 3 == 1 ? 1 : 3);
            x.due(226L * (i % 3 == 0 ? 7 + 15 : i % 3 == 1 ? 24 : 12), "mass", i);
        }
        x.due(1, "box", 3, 0, 0, 0, 1, 1, 1);
        for (int i = 0; i < 30; i++) {
            x.due(NONE, "join", 3, 3);
            x.due(NONE, "join", i, 2);
            x.due(NONE, "body");
        }
        for (int i = 4; i < 30; i++) {
            // Six of 12 are left where an empty one was joined.
            x.due(i % 3 == 2 ? 1 : 0, "box", i, 0, 0, 0, 1, 1, 1);
            x.due(226L * (i % 3 == 0 ? 22 : i % 3 == 1 ? 24 : 13), "mass", i);
        }
        while (x.callsLeft() > 0) {
            x.due(226L * 12, "mass", 1);
        }
    }

    /** Promises 9 and 11 to 13: a body as it will be, at 30 places at once; each two solids more reach one place farther. */
    private static void bodyGrowsUnderItsPlacements() {
        Run x = new Run(0);
        x.due(0, "body");
        for (int i = 0; i < 30; i++) {
            x.due(i, "place", 0, 100 * i, 0, 0, 0);
        }
        x.due(1, "box", 0, 0, 0, 0, 10, 10, 100);
        x.due(0, "clashes");
        int clashes = 0;
        for (int far = 1; far <= 5; far++) {
            // Up to the other one's side, at a height where nothing else is.
            x.due(1, "box", 0, 100 * far - 10, 0, 10 * far, 10, 10, 5);
            allWithTheOneSoFar(x, far, 2);
            x.due(clashes, "clashes");
            // By one into it.
            x.due(1, "box", 0, 100 * far - 9, 0, 10 * far + 5, 10, 10, 5);
            allWithTheOneSoFar(x, far, 1);
            clashes += 30 - far;
            x.due(clashes, "clashes");
            x.due(28, "pair", clashes - 1, 0);
            x.due(29, "pair", clashes - 1, 1);
        }
        while (x.callsLeft() > 0) {
            x.due(29 + 28 + 27 + 26 + 25, "clashes");
        }
    }

    private static void allWithTheOneSoFar(Run x, int far, long due) {
        for (int i = far; i < 30; i++) {
            x.due(due, "clash", i, i - far);
        }
    }

    /** Promise 16: the body is empty until there are only a few calls left, and its placements with it. */
    private static void emptyUntilTheLastCall() {
        Run x = new Run(5);
        x.due(0, "body");
        for (int i = 0; i < 30; i++) {
            x.due(i, "place", 0, 50, 0, i % 4, i % 2);
        }
        while (x.callsLeft() > 5) {
            x.due(Run.STATE, "bound", x.callsLeft() % 30, x.callsLeft() % 6);
        }
        x.due(0, "mass", 0);
        x.due(0, "clashes");
        x.due(1, "cylinder", 0, 0, 0, 0, 1, 1);
        x.due(49, "bound", 29, 0);
        // Fifteen on each side.
        x.due(2 * 105, "clashes");
    }
}
