/** The sentences of promises 1 to 18 that name a boundary or a refused call, and what later calls answer behind it. */
final class PromiseEdgesTest {
    public static void main(String[] args) {
        newObjectHasNothing();
        newObjectsThickness();
        bodyWithThirty();
        solidsOfNoSuchBody();
        solidsNotAsSaid();
        solidsForAFullBody();
        cornerBehindEight();
        prismTakesTheCorners();
        prismOfNoPolygon();
        prismForAFullBody();
        prismThatThrows();
        tubesAxis();
        tubesLength();
        ballHasNoLength();
        joinWithThirty();
        joinOfMoreThanTwelve();
        joinOfNoSuchBodies();
        placeWithThirty();
        placeOfNoSuchBody();
        placeNotSo();
        placeOfABodyAsItWillBe();
        moveWhetherOtherwise();
        moveThatThrows();
        clashWithItself();
        clashOfNoSuchOnes();
        clashesAreOfTwo();
        pairsOfNotSoMany();
        pairsForAnotherWhich();
        Due.end();
    }

    private static long one(boolean answer) {
        return answer ? 1 : 0;
    }

    private static void corners(BodySolids x, long... places) {
        for (int i = 0; i + 1 < places.length; i += 2) {
            x.corner(places[i], places[i + 1]);
        }
    }

    private static void nothing(BodySolids x) {
        Due.is("a new object clashes nowhere", x.clashes(), 0);
    }

    private static void fullBody(BodySolids x) {
        Edges.some(x);
        fill(x);
    }

    private static void fill(BodySolids x) {
        for (int i = 0; i < 12; i++) {
            x.box(2, 4 * i, 0, 0, 1, 2, 3);
        }
    }

    private static void bodies(BodySolids x, int count) {
        Edges.some(x);
        for (int i = 3; i < count; i++) {
            x.body();
        }
    }

    private static void placements(BodySolids x, int count) {
        Edges.some(x);
        for (int i = 4; i < count; i++) {
            x.place(0, 30 * i, 0, i % 4, i % 2);
        }
    }

    /** 1: "No bodies". */
    private static void newObjectHasNothing() {
        Edges.numbers("mass", PromiseEdgesTest::nothing, 0, (x, v) -> x.mass((int) v));
        Edges.numbers("bound", PromiseEdgesTest::nothing, 0, (x, v) -> x.bound((int) v, 0));
        Edges.numbers("box", PromiseEdgesTest::nothing, 0, (x, v) -> one(x.box((int) v, 0, 0, 0, 1, 1, 1)));
        Edges.numbers("place", PromiseEdgesTest::nothing, 0, (x, v) -> x.place((int) v, 0, 0, 0, 0));
        Edges.numbers("move", PromiseEdgesTest::nothing, 0, (x, v) -> one(x.move((int) v, 0, 0, 0, 0)));
        Edges.numbers("join", PromiseEdgesTest::nothing, 0, (x, v) -> x.join((int) v, (int) v));
        Edges.numbers("clash", PromiseEdgesTest::nothing, 0, (x, v) -> x.clash((int) v, (int) v));
        Edges.listed("pair", PromiseEdgesTest::nothing, new long[0], (x, v) -> x.pair((int) v, 0));
        Edges.listed("breaks", PromiseEdgesTest::nothing, new long[0], (x, v) -> x.breaks((int) v));
        Edges.listed("section", PromiseEdgesTest::nothing, new long[0], (x, v) -> x.section(1, (int) v, 0));
        Edges.taken("body", PromiseEdgesTest::nothing, 0, x -> x.body());
    }

    /** 1: "the board's THICKNESS (below 0: 0; above 1,000: 1,000)." */
    private static void newObjectsThickness() {
        long[] told = {Long.MIN_VALUE, -1000, -1, 0, 1, 2, 999, 1000, 1001, 2000, Long.MAX_VALUE};
        long[] due = {0, 0, 0, 0, 1, 2, 999, 1000, 1000, 1000, 1000};
        for (int i = 0; i < told.length; i++) {
            BodySolids x = new BodySolids(told[i]);
            x.body();
            x.box(0, 0, 0, 0, 2, 2, 2);
            x.place(0, 0, 0, 0, 0);
            x.place(0, 2, 0, 0, 1);
            Due.is("upper bound under a board of " + told[i], x.bound(1, 5), -due[i]);
            Due.is("lower bound", x.bound(1, 2), -due[i] - 2);
            Due.is("section over the first solid below", x.section(-due[i], 0, 0), BodySolids.NONE);
            Due.is("section in it", x.section(-due[i] - 1, 0, 0), 1);
            Due.is("on both sides of the board", x.clash(0, 1), due[i] == 0 ? 2 : 0);
            x.keepOut(0, 0, 2, 2, 1, 2);
            Due.is("not farther than 2 from the board", x.breaks(0), BodySolids.NONE);
            x.keepOut(0, 0, 2, 2, 1, 1);
            Due.is("farther than 1 from the board", x.breaks(0), 1);
        }
    }

    /** 2: "its number; NONE, when there are 30." */
    private static void bodyWithThirty() {
        Edges.taken("the thirtieth", x -> bodies(x, 29), 29, x -> x.body());
        Edges.idle("one more", x -> bodies(x, 30), BodySolids.NONE, x -> x.body());
        Edges.idle("two more", x -> bodies(x, 30), BodySolids.NONE, x -> Math.max(x.body(), x.body()));
        Edges.taken("behind a join", Edges::some, 4, x -> Math.max(x.join(0, 1), x.body()));
    }

    /** 3, 4, 6, 7: "IndexOutOfBoundsException, when there is no such body". */
    private static void solidsOfNoSuchBody() {
        for (int count = 3; count <= 30; count += 27) {
            int all = count;
            Edges.Setup setup = x -> bodies(x, all);
            Edges.numbers("box", setup, count, (x, v) -> one(x.box((int) v, 0, 0, 0, 1, 1, 1)));
            Edges.numbers("cylinder", setup, count, (x, v) -> one(x.cylinder((int) v, 0, 0, 0, 1, 1)));
            Edges.numbers("prism", setup, count, (x, v) -> one(x.prism((int) v, 0, 1)));
            Edges.numbers("tube", setup, count, (x, v) -> one(x.tube((int) v, 1, 0, 0, 1, 0, 1)));
            Edges.taken("box", setup, 1, x -> one(x.box(all - 1, 0, 0, 0, 1, 1, 1)));
            Edges.taken("cylinder", setup, 1, x -> one(x.cylinder(all - 1, 0, 0, 0, 1, 1)));
            Edges.taken("prism", setup, 1, x -> one(x.prism(all - 1, 0, 1)));
            Edges.taken("tube", setup, 1, x -> one(x.tube(all - 1, 1, 0, 0, 1, 0, 1)));
        }
        Edges.numbers("box, wrong too", Edges::some, 3, (x, v) -> one(x.box((int) v, 0, 0, 0, 0, 1, 1)));
        Edges.numbers("cylinder, wrong too", Edges::some, 3, (x, v) -> one(x.cylinder((int) v, 0, 0, 0, 0, 1)));
        Edges.numbers("prism, wrong too", Edges::some, 3, (x, v) -> one(x.prism((int) v, 0, 0)));
        Edges.numbers("tube, wrong too", Edges::some, 3, (x, v) -> one(x.tube((int) v, 0, 0, 0, 1, 0, 1)));
    }

    /** 3: "IllegalArgumentException, when something is not as said (so with all solids)": TermsEdgesTest has each; full too. */
    private static void solidsNotAsSaid() {
        Edges.Setup[] setups = {Edges::some, PromiseEdgesTest::fullBody};
        for (Edges.Setup setup : setups) {
            Edges.noArgument("box", setup, x -> one(x.box(2, 0, 0, 0, 1, 1, 0)));
            Edges.noArgument("box whose end wraps round", setup, x -> one(x.box(2, 1, 1, 1, Long.MAX_VALUE, 1, 1)));
            Edges.noArgument("box whose height wraps round", setup, x -> one(x.box(2, 1, 1, 1, 1, 1, Long.MAX_VALUE)));
            Edges.noArgument("box wrong in all", setup, x -> one(x.box(2, 9999, 9999, -1, 0, 0, 0)));
            Edges.noArgument("cylinder", setup, x -> one(x.cylinder(2, 0, 0, 0, 0, 1)));
            Edges.noArgument("cylinder wrong in all", setup, x -> one(x.cylinder(2, 9999, 9999, -1, 0, 0)));
            Edges.noArgument("prism", setup, x -> one(x.prism(2, -1, 1)));
            Edges.noArgument("prism whose height wraps round", setup, x -> one(x.prism(2, 1, Long.MAX_VALUE)));
            Edges.noArgument("tube", setup, x -> one(x.tube(2, 1, 0, 0, 0, 0, 1)));
            Edges.noArgument("tube whose end wraps round", setup, x -> one(x.tube(2, 1, 1, 1, 1, 0, Long.MAX_VALUE)));
            Edges.noArgument("tube wrong in all", setup, x -> one(x.tube(2, 0, 9999, 9999, -1, 3, 99999)));
        }
    }

    /** 3, 4, 7: "false, when the body has 12 solids." */
    private static void solidsForAFullBody() {
        Edges.idle("box", PromiseEdgesTest::fullBody, 0, x -> one(x.box(2, 0, 0, 0, 9, 9, 9)));
        Edges.idle("cylinder", PromiseEdgesTest::fullBody, 0, x -> one(x.cylinder(2, 0, 0, 0, 9, 9)));
        Edges.idle("tube", PromiseEdgesTest::fullBody, 0, x -> one(x.tube(2, 9, 0, 0, 9, 0, 9)));
        Edges.taken("box of another body", PromiseEdgesTest::fullBody, 1, x -> one(x.box(1, 0, 0, 0, 9, 9, 9)));
    }

    private static final long[] EIGHT = {1, 0, 2, 0, 3, 1, 3, 2, 2, 3, 1, 3, 0, 2, 0, 1};

    private static void cornersOfEight(BodySolids x, int count) {
        Edges.noCorners(x);
        for (int i = 0; i < count; i++) {
            x.corner(EIGHT[2 * i], EIGHT[2 * i + 1]);
        }
    }

    /** 5: "true; false, when there are eight. IllegalArgumentException, when it is no place." */
    private static void cornerBehindEight() {
        for (int count = 0; count < 8; count++) {
            int told = count;
            Edges.becomes("corner " + told, x -> cornersOfEight(x, told), 1, x -> one(x.corner(EIGHT[2 * told], EIGHT[2 * told + 1])),
                    x -> cornersOfEight(x, told + 1));
            Edges.noArgument("no place behind " + told, x -> cornersOfEight(x, told), x -> one(x.corner(5001, 0)));
            Edges.noArgument("no place, too, behind " + told, x -> cornersOfEight(x, told), x -> one(x.corner(0, -5001)));
        }
        Edges.idle("a ninth", x -> cornersOfEight(x, 8), 0, x -> one(x.corner(0, 0)));
        Edges.noArgument("a ninth that is no place", x -> cornersOfEight(x, 8), x -> one(x.corner(-5001, 0)));
        Edges.becomes("a ninth, then the prism", x -> cornersOfEight(x, 8), 1, x -> {
            x.corner(-1, 1);
            return one(x.prism(2, 0, 3));
        }, x -> {
            cornersOfEight(x, 8);
            x.prism(2, 0, 3);
        });
        BodySolids x = Edges.made(y -> cornersOfEight(y, 8));
        Due.no("a ninth", x.corner(-9, 1));
        Due.yes("a prism over eight", x.prism(2, 0, 3));
        Due.is("its mass", x.mass(2), 226 * 7 * 3);
        Due.is("its least x", x.bound(2, 0), 5);
        for (int i = 0; i < 8; i++) {
            Due.yes("eight more can be told", x.corner(EIGHT[2 * i], EIGHT[2 * i + 1]));
        }
        Due.no("and no ninth", x.corner(-9, 1));
    }

    /** 6: "One more PRISM over the corners that were told, which are gone then: true". */
    private static void prismTakesTheCorners() {
        for (int count = 3; count <= 8; count++) {
            BodySolids x = new BodySolids(0);
            x.body();
            for (int i = 0; i < count; i++) {
                x.corner(EIGHT[2 * i], EIGHT[2 * i + 1]);
            }
            Due.yes("a prism over " + count, x.prism(0, 0, 1));
            long[] twice = {1, 3, 7, 10, 13, 14};
            Due.is("its mass", x.mass(0), 113 * twice[count - 3]);
            Due.no("its corners are gone", x.prism(0, 0, 1));
            Due.is("it is alone", x.mass(0), 113 * twice[count - 3]);
            corners(x, 0, 0, 2, 0, 0, 2);
            Due.yes("the next prism has its own corners", x.prism(0, 1, 1));
            Due.is("and its own mass", x.mass(0), 113 * (twice[count - 3] + 4));
        }
    }

    /** 6: "false, when they make no such polygon (they are gone, too)". */
    private static void prismOfNoPolygon() {
        long[][] wrong = {
            {}, {0, 0}, {0, 0, 4, 0}, {0, 0, 0, 0, 0, 0}, {0, 0, 4, 0, 4, 0}, {0, 0, 4, 0, 8, 0}, {0, 0, 0, 4, 4, 0}, {0, 0, 4, 0, 4, 4, 4, 8},
            {0, 0, 2, 0, 4, 0, 0, 4}, {0, 0, 4, 0, 4, 4, 0, 4, 0, 2}, {0, 0, 4, 0, 1, 1, 0, 4}, {0, 0, 4, 4, 4, 0, 0, 4},
            {0, 10, -6, -8, 10, 3, -10, 3, 6, -8}, {0, 0, 4, 0, 0, 4, 0, 0, 4, 0, 0, 4}, {0, 1, 0, 2, 1, 3, 2, 3, 3, 2, 3, 1, 2, 0, 1, 0},
            {1, 0, 2, 0, 3, 1, 3, 2, 2, 3, 1, 3, 0, 2, 1, 1}, {-5000, -5000, 0, 0, 5000, 5000}, {-5000, -5000, 5000, 5000, 5000, 4999},
        };
        for (long[] told : wrong) {
            Edges.becomes("corners that make no polygon, " + told.length, x -> {
                Edges.noCorners(x);
                corners(x, told);
            }, 0, x -> one(x.prism(2, 0, 1)), Edges::noCorners);
        }
        Edges.becomes("the thinnest", x -> {
            Edges.noCorners(x);
            corners(x, -5000, -5000, 5000, 4999, 5000, 5000);
        }, 1, x -> one(x.prism(2, 0, 1)), x -> {
            Edges.noCorners(x);
            corners(x, 5000, 4999, 5000, 5000, -5000, -5000);
            x.prism(2, 0, 1);
        });
    }

    /** 6: "or the body has 12 solids (they stay)." */
    private static void prismForAFullBody() {
        Edges.idle("a thirteenth", PromiseEdgesTest::fullBody, 0, x -> one(x.prism(2, 0, 1)));
        Edges.becomes("the corners stay for another body", PromiseEdgesTest::fullBody, 1, x -> {
            x.prism(2, 0, 1);
            return one(x.prism(1, 7, 2));
        }, x -> {
            Edges.noCorners(x);
            fill(x);
            corners(x, 0, 0, 6, 0, 0, 3);
            x.prism(1, 7, 2);
        });
        Edges.becomes("no polygon, and the body is full, too: gone", x -> {
            Edges.noCorners(x);
            fill(x);
            corners(x, 0, 0, 6, 0);
        }, 0, x -> one(x.prism(2, 0, 1)), x -> {
            Edges.noCorners(x);
            fill(x);
        });
    }

    /** 6: "Throws likewise (they stay)." Those that make no polygon stay as well. */
    private static void prismThatThrows() {
        long[][] told = {{}, {0, 0, 4, 0}, {0, 0, 6, 0, 0, 3}, {0, 0, 0, 4, 4, 0}, EIGHT};
        for (long[] each : told) {
            Edges.Setup setup = x -> {
                Edges.noCorners(x);
                corners(x, each);
            };
            String what = each.length / 2 + " corners";
            Edges.numbers(what, setup, 3, (x, v) -> one(x.prism((int) v, 0, 1)));
            Edges.noArgument(what + ", z -1", setup, x -> one(x.prism(2, -1, 1)));
            Edges.noArgument(what + ", z 5,000", setup, x -> one(x.prism(2, 5000, 1)));
            Edges.noArgument(what + ", d 0", setup, x -> one(x.prism(2, 0, 0)));
            Edges.noArgument(what + ", d 5,001", setup, x -> one(x.prism(2, 0, 5001)));
        }
    }

    /** 7: "along an axis (0, 1, 2)". */
    private static void tubesAxis() {
        for (long length = -5; length <= 5; length += 5) {
            long each = length;
            Edges.choice("axis, length " + length, Edges::some, 2, 1, (x, v) -> one(x.tube(2, 1, 0, 0, 9, (int) v, each)));
        }
        long[][] due = {{-2, -2, 7, 7, 2, 11}, {-2, -2, 7, 2, 7, 11}, {-2, -2, 7, 2, 2, 16}};
        for (int axis = 0; axis < 3; axis++) {
            BodySolids x = new BodySolids(0);
            x.body();
            x.tube(0, 2, 0, 0, 9, axis, 5);
            x.place(0, 0, 0, 0, 0);
            for (int what = 0; what < 6; what++) {
                Due.is("axis " + axis + " bound " + what, x.bound(0, what), due[axis][what]);
            }
        }
    }

    /** 7: "so long (-10,000 .. 10,000". */
    private static void tubesLength() {
        Edges.range("x from the least", Edges::some, 0, 10000, 1, (x, v) -> one(x.tube(2, 1, -5000, 0, 1, 0, v)));
        Edges.range("x from the greatest", Edges::some, -10000, 0, 1, (x, v) -> one(x.tube(2, 1, 5000, 0, 1, 0, v)));
        Edges.range("x from the middle", Edges::some, -5000, 5000, 1, (x, v) -> one(x.tube(2, 1, 0, 0, 1, 0, v)));
        Edges.range("y from the least", Edges::some, 0, 10000, 1, (x, v) -> one(x.tube(2, 1, 0, -5000, 1, 1, v)));
        Edges.range("y from the greatest", Edges::some, -10000, 0, 1, (x, v) -> one(x.tube(2, 1, 0, 5000, 1, 1, v)));
        Edges.range("upwards", Edges::some, 0, 4999, 1, (x, v) -> one(x.tube(2, 1, 0, 0, 1, 2, v)));
        Edges.range("downwards", Edges::some, -4999, 0, 1, (x, v) -> one(x.tube(2, 1, 0, 0, 5000, 2, v)));
    }

    /** 7: "of no length it is a ball". */
    private static void ballHasNoLength() {
        for (int axis = 0; axis < 3; axis++) {
            BodySolids x = new BodySolids(0);
            x.body();
            x.body();
            Due.yes("ball", x.tube(0, 5, 1, 2, 6, axis, 0));
            Due.is("it weighs nothing", x.mass(0), 0);
            x.tube(1, 5, 0, 0, 6, 0, 0);
            x.place(0, 0, 0, 0, 0);
            x.place(1, 7, 10, 0, 0);
            long[] due = {-4, -3, 1, 6, 7, 11};
            for (int what = 0; what < 6; what++) {
                Due.is("ball's bound " + what, x.bound(0, what), due[what]);
            }
            Due.is("balls 6 and 8 apart", x.clash(0, 1), 2);
            x.move(1, 7, 9, 0, 0);
            Due.is("balls 6 and 7 apart", x.clash(0, 1), 1);
            x.move(1, 8, 10, 0, 0);
            Due.is("balls 7 and 8 apart", x.clash(0, 1), 0);
        }
    }

    /** 8: "its number; NONE, when there are 30". */
    private static void joinWithThirty() {
        Edges.taken("the thirtieth", x -> bodies(x, 29), 29, x -> x.join(0, 1));
        Edges.idle("one more", x -> bodies(x, 30), BodySolids.NONE, x -> x.join(0, 1));
        Edges.idle("one more of nothing", x -> bodies(x, 30), BodySolids.NONE, x -> x.join(2, 2));
        Edges.idle("a body behind it", x -> {
            bodies(x, 29);
            x.join(0, 1);
        }, BodySolids.NONE, x -> x.body());
    }

    private static void counted(BodySolids x, int first, int second) {
        x.body();
        x.body();
        for (int i = 0; i < first; i++) {
            x.box(0, i, 0, 0, 1, 1, 2);
        }
        for (int i = 0; i < second; i++) {
            x.cylinder(1, -i, 0, 0, 1, 2);
        }
    }

    /** 8: "or these would be more than 12." */
    private static void joinOfMoreThanTwelve() {
        for (int first = 0; first <= 12; first++) {
            int all = first;
            Edges.taken("twelve, of which " + first, x -> counted(x, all, 12 - all), 2, x -> x.join(0, 1));
        }
        for (int first = 1; first <= 12; first++) {
            int all = first;
            Edges.idle("thirteen, of which " + first, x -> counted(x, all, 13 - all), BodySolids.NONE, x -> x.join(0, 1));
        }
        Edges.idle("twelve and twelve", x -> counted(x, 12, 12), BodySolids.NONE, x -> x.join(1, 0));
        Edges.taken("six twice", x -> counted(x, 6, 0), 2, x -> x.join(0, 0));
        Edges.idle("seven twice", x -> counted(x, 7, 0), BodySolids.NONE, x -> x.join(0, 0));
        BodySolids x = Edges.made(y -> counted(y, 5, 7));
        Due.is("joined", x.join(1, 0), 2);
        Due.is("its mass", x.mass(2), 5 * 452 + 7 * 1420);
        Due.no("it is full", x.box(2, 0, 0, 0, 1, 1, 1));
        Due.yes("the first is not", x.box(0, 90, 0, 0, 1, 1, 1));
        Due.yes("the second is not", x.box(1, 90, 0, 0, 1, 1, 1));
        x.place(2, 0, 0, 0, 0);
        Due.is("it stays as it is", x.bound(0, 3), 5);
        Due.is("its twelfth solid", x.section(1, 11, 1), 11);
        Due.is("its solids are two's", x.section(1, 12, 1), BodySolids.NONE);
    }

    /** 8: "IndexOutOfBoundsException, when there are no such bodies." */
    private static void joinOfNoSuchBodies() {
        Edges.numbers("first", Edges::some, 3, (x, v) -> x.join((int) v, 0));
        Edges.numbers("second", Edges::some, 3, (x, v) -> x.join(0, (int) v));
        Edges.numbers("both", Edges::some, 3, (x, v) -> x.join((int) v, (int) v));
        Edges.numbers("first, with 30", x -> bodies(x, 30), 30, (x, v) -> x.join((int) v, 0));
        Edges.numbers("second, with 30", x -> bodies(x, 30), 30, (x, v) -> x.join(0, (int) v));
        Edges.numbers("second, the first is full", PromiseEdgesTest::fullBody, 3, (x, v) -> x.join(2, (int) v));
        Edges.taken("the last with the first", Edges::some, 3, x -> x.join(2, 0));
        Edges.taken("the first with the last", Edges::some, 3, x -> x.join(0, 2));
    }

    /** 9: "its number; NONE, when there are 30." */
    private static void placeWithThirty() {
        Edges.taken("the thirtieth", x -> placements(x, 29), 29, x -> x.place(1, 0, 0, 0, 0));
        Edges.idle("one more", x -> placements(x, 30), BodySolids.NONE, x -> x.place(1, 0, 0, 0, 0));
        Edges.noArgument("one more, wrong", x -> placements(x, 30), x -> x.place(1, 0, 0, 4, 0));
        Edges.noIndex("one more of no body", x -> placements(x, 30), x -> x.place(3, 0, 0, 0, 0));
        Edges.taken("the last can be moved", x -> placements(x, 30), 1, x -> one(x.move(29, 0, 0, 0, 0)));
    }

    /** 9: "IndexOutOfBoundsException, when there is no such body". */
    private static void placeOfNoSuchBody() {
        Edges.numbers("place", Edges::some, 3, (x, v) -> x.place((int) v, 0, 0, 0, 0));
        Edges.numbers("place, wrong too", Edges::some, 3, (x, v) -> x.place((int) v, 0, 0, 0, 2));
        Edges.numbers("place of thirty", x -> bodies(x, 30), 30, (x, v) -> x.place((int) v, 0, 0, 0, 0));
        for (int body = 0; body < 3; body++) {
            int each = body;
            Edges.taken("place of body " + body, Edges::some, 4, x -> x.place(each, 0, 0, 0, 0));
        }
        Edges.taken("place of the thirtieth", x -> bodies(x, 30), 4, x -> x.place(29, 0, 0, 0, 0));
    }

    /** 9: "IllegalArgumentException, when x, y are not so, turn is not 0 .. 3, or side not 0, 1." */
    private static void placeNotSo() {
        Edges.range("x", Edges::some, -10000, 10000, 4, (x, v) -> x.place(0, v, 0, 3, 1));
        Edges.range("y", Edges::some, -10000, 10000, 4, (x, v) -> x.place(0, 0, v, 3, 1));
        Edges.choice("turn", Edges::some, 3, 4, (x, v) -> x.place(0, 0, 0, (int) v, 0));
        Edges.choice("turn on side 1", Edges::some, 3, 4, (x, v) -> x.place(0, 0, 0, (int) v, 1));
        Edges.choice("side", Edges::some, 1, 4, (x, v) -> x.place(0, 0, 0, 0, (int) v));
        Edges.noArgument("all of it", Edges::some, x -> x.place(0, 10001, -10001, 4, 2));
        long[][] due = {{11, 22, 14, 26}, {4, 21, 8, 24}, {6, 14, 9, 18}, {12, 16, 16, 19}, {6, 22, 9, 26}, {4, 16, 8, 19}, {11, 14, 14, 18},
            {12, 21, 16, 24}};
        for (int i = 0; i < 8; i++) {
            BodySolids x = new BodySolids(2);
            x.body();
            x.box(0, 1, 2, 0, 3, 4, 5);
            x.place(0, 10, 20, i % 4, i / 4);
            long[] got = {x.bound(0, 0), x.bound(0, 1), x.bound(0, 3), x.bound(0, 4)};
            for (int j = 0; j < 4; j++) {
                Due.is("turn " + i % 4 + " on side " + i / 4 + ", bound", got[j], due[i][j]);
            }
        }
    }

    /** 9: "A PLACEMENT of a body, as it is now and will be". */
    private static void placeOfABodyAsItWillBe() {
        BodySolids x = new BodySolids(0);
        x.body();
        x.place(0, 10, 0, 0, 0);
        x.place(0, 12, 0, 0, 1);
        Due.state("empty yet", () -> x.bound(0, 0));
        Due.is("apart yet", x.clash(0, 1), 0);
        x.box(0, 0, 0, 0, 3, 3, 3);
        Due.is("a first solid", x.bound(0, 3), 13);
        Due.is("of both", x.bound(1, 0), 9);
        Due.is("they touch through it", x.clash(0, 1), 2);
        for (int i = 1; i < 12; i++) {
            x.box(0, i, 0, 3, 3, 3, 3);
        }
        Due.is("a twelfth solid", x.bound(0, 3), 24);
        x.box(0, 99, 0, 0, 3, 3, 3);
        Due.is("no thirteenth", x.bound(0, 3), 24);
        clashOfABodyAsItWillBe();
    }

    /** What was answered once is not kept when a body gets one more solid, of whatever kind and in whichever placement. */
    private static void clashOfABodyAsItWillBe() {
        for (int kind = 0; kind < 4; kind++) {
            for (int other = 0; other < 2; other++) {
                BodySolids x = new BodySolids(0);
                x.body();
                x.body();
                x.box(other, 0, 0, 0, 9, 9, 9);
                x.place(0, 0, 0, 0, 0);
                x.place(1, 0, 0, 0, 0);
                Due.is("apart yet", x.clash(0, 1), 0);
                Due.is("no clashes yet", x.clashes(), 0);
                corners(x, 1, 1, 2, 1, 1, 2);
                int body = 1 - other;
                boolean taken = kind == 0 ? x.box(body, 1, 1, 1, 1, 1, 1) : kind == 1 ? x.cylinder(body, 4, 4, 1, 1, 1)
                        : kind == 2 ? x.prism(body, 1, 1) : x.tube(body, 1, 4, 4, 2, 0, 1);
                Due.yes("a solid of kind " + kind, taken);
                Due.is("then they clash", x.clash(0, 1), 1);
                Due.is("and are counted", x.clashes(), 1);
                Due.is("and told", x.pair(0, 1), 1);
            }
        }
    }

    /** 10: "whether something is otherwise." */
    private static void moveWhetherOtherwise() {
        Edges.Setup setup = x -> {
            Edges.some(x);
            x.move(1, 5, 6, 2, 1);
        };
        Edges.idle("nothing", setup, 0, x -> one(x.move(1, 5, 6, 2, 1)));
        Edges.taken("x", setup, 1, x -> one(x.move(1, 4, 6, 2, 1)));
        Edges.taken("y", setup, 1, x -> one(x.move(1, 5, 7, 2, 1)));
        Edges.taken("turn", setup, 1, x -> one(x.move(1, 5, 6, 3, 1)));
        Edges.taken("side", setup, 1, x -> one(x.move(1, 5, 6, 2, 0)));
        Edges.becomes("there and back", setup, 11, x -> 10 * one(x.move(1, 9, 9, 0, 0)) + one(x.move(1, 5, 6, 2, 1)), setup);
        Edges.becomes("twice", setup, 10, x -> 10 * one(x.move(1, 9, 9, 0, 0)) + one(x.move(1, 9, 9, 0, 0)), x -> {
            Edges.some(x);
            x.move(1, 9, 9, 0, 0);
        });
        Edges.idle("an empty one goes unseen", setup, 1, x -> one(x.move(2, 0, 0, 3, 1)));
    }

    /** 10: "Throws likewise, for the placement." */
    private static void moveThatThrows() {
        Edges.numbers("place", Edges::some, 4, (x, v) -> one(x.move((int) v, 1, 1, 1, 1)));
        Edges.numbers("place, wrong too", Edges::some, 4, (x, v) -> one(x.move((int) v, 1, 1, 4, 1)));
        Edges.numbers("place of thirty", x -> placements(x, 30), 30, (x, v) -> one(x.move((int) v, 1, 1, 1, 1)));
        Edges.range("x", Edges::some, -10000, 10000, 1, (x, v) -> one(x.move(3, v, 0, 3, 1)));
        Edges.range("y", Edges::some, -10000, 10000, 1, (x, v) -> one(x.move(3, 0, v, 3, 1)));
        Edges.choice("turn", Edges::some, 3, 1, (x, v) -> one(x.move(0, 1, 0, (int) v, 0)));
        Edges.choice("side", Edges::some, 1, 1, (x, v) -> one(x.move(0, 1, 0, 0, (int) v)));
        Edges.noArgument("all of it", Edges::some, x -> one(x.move(0, 10001, -10001, 4, 2)));
        Edges.idle("a move to where it is, behind a refused one", Edges::some, 0, x -> {
            Due.argument("a refused move", () -> x.move(0, 1, 1, 1, 2));
            return one(x.move(0, 0, 0, 0, 0));
        });
    }

    /** 11: "of one placement with itself 0." */
    private static void clashWithItself() {
        for (int place = 0; place < 4; place++) {
            int each = place;
            Edges.idle("placement " + place, Edges::some, 0, x -> x.clash(each, each));
        }
        BodySolids x = new BodySolids(0);
        x.body();
        x.box(0, 0, 0, 0, 3, 3, 3);
        x.box(0, 1, 1, 1, 3, 3, 3);
        x.place(0, 0, 0, 0, 0);
        Due.is("whose own solids have inner points in common", x.clash(0, 0), 0);
        Due.is("which is no clash", x.clashes(), 0);
        x.place(0, 0, 0, 0, 0);
        Due.is("with another of the same body", x.clash(0, 1), 1);
        Due.is("the other way", x.clash(1, 0), 1);
        Due.is("with itself still", x.clash(1, 1), 0);
    }

    /** 11: "IndexOutOfBoundsException, when there are no such ones." */
    private static void clashOfNoSuchOnes() {
        Edges.numbers("first", Edges::some, 4, (x, v) -> x.clash((int) v, 0));
        Edges.numbers("second", Edges::some, 4, (x, v) -> x.clash(0, (int) v));
        Edges.numbers("both", Edges::some, 4, (x, v) -> x.clash((int) v, (int) v));
        Edges.numbers("first of thirty", x -> placements(x, 30), 30, (x, v) -> x.clash((int) v, 0));
        Edges.numbers("second of thirty", x -> placements(x, 30), 30, (x, v) -> x.clash(0, (int) v));
        Edges.numbers("both of thirty", x -> placements(x, 30), 30, (x, v) -> x.clash((int) v, (int) v));
        Edges.idle("the last", x -> placements(x, 30), 0, x -> x.clash(29, 0));
    }

    private static void row(BodySolids x, int count) {
        x.body();
        x.box(0, 0, 0, 0, 10, 10, 10);
        for (int i = 0; i < count; i++) {
            x.place(0, 5 * i, 0, 0, 0);
        }
    }

    /** 12: "How many two placements CLASH." Each two once; those that touch are none. */
    private static void clashesAreOfTwo() {
        for (int count = 0; count <= 30; count++) {
            int all = count;
            Edges.idle("clashes of " + count + " in a row", x -> row(x, all), Math.max(0, count - 1), x -> x.clashes());
        }
        BodySolids x = new BodySolids(0);
        row(x, 30);
        for (int i = 0; i < 30; i++) {
            x.move(i, i % 3, 0, 0, 0);
        }
        Due.is("all of thirty", x.clashes(), 435);
        Due.argument("a refused move", () -> x.move(29, 10001, 0, 0, 0));
        Due.is("all of thirty still", x.clashes(), 435);
        x.move(29, 5000, 0, 0, 0);
        Due.is("without the last", x.clashes(), 406);
    }

    /** 13: "NONE, when there are not so many (or k is below 0)." */
    private static void pairsOfNotSoMany() {
        for (int count = 0; count <= 4; count++) {
            int all = count;
            long[] lower = new long[Math.max(0, count - 1)];
            long[] other = new long[lower.length];
            for (int i = 0; i < lower.length; i++) {
                lower[i] = i;
                other[i] = i + 1;
            }
            Edges.listed("lower of " + count, x -> row(x, all), lower, (x, v) -> x.pair((int) v, 0));
            Edges.listed("other of " + count, x -> row(x, all), other, (x, v) -> x.pair((int) v, 1));
        }
        BodySolids x = new BodySolids(0);
        row(x, 30);
        for (int i = 0; i < 30; i++) {
            x.move(i, 0, i % 2, 0, 0);
        }
        long[][] due = {{0, 1}, {0, 2}, {0, 29}, {1, 2}, {27, 29}, {28, 29}};
        int[] at = {0, 1, 28, 29, 433, 434};
        for (int i = 0; i < at.length; i++) {
            Due.is("lower of pair " + at[i], x.pair(at[i], 0), due[i][0]);
            Due.is("other of pair " + at[i], x.pair(at[i], 1), due[i][1]);
        }
        Due.is("no pair 435", x.pair(435, 0), BodySolids.NONE);
        Due.is("nor its other", x.pair(435, 1), BodySolids.NONE);
    }

    /** 13: "IndexOutOfBoundsException, for another which." So where there are not so many, too. */
    private static void pairsForAnotherWhich() {
        for (int k = -1; k < 5; k++) {
            int each = k;
            Edges.numbers("which, k " + k, x -> row(x, 3), 2, (x, v) -> x.pair(each, (int) v));
        }
        Edges.numbers("which of nothing", PromiseEdgesTest::nothing, 2, (x, v) -> x.pair(0, (int) v));
    }
}
