/** The sentences of promises 14 to 18 that name a boundary or a refused call, and what later calls answer behind it. */
final class AskedEdgesTest {
    public static void main(String[] args) {
        keepOutWithTen();
        keepOutWithoutInside();
        keepOutNotWithin();
        keepOutsSideAndHeight();
        keepOutsRefusedCountNot();
        breaksOfNotSoMany();
        breaksAtTheRectanglesEnds();
        breaksAtTheHeight();
        breaksOnItsSideAlone();
        boundOfNoSuchPlacement();
        boundOfNoSuchWhat();
        boundOfAnEmptyBody();
        sectionOfNotSoMany();
        sectionOfInnerPoints();
        sectionOfNoSuchWhat();
        massOfNoSuchBody();
        massOfTheLeastAndTheGreatest();
        Due.end();
    }

    private static long one(boolean answer) {
        return answer ? 1 : 0;
    }

    private static void keepOuts(BodySolids x, int count) {
        Edges.some(x);
        for (int i = 1; i < count; i++) {
            x.keepOut(100 * i, 0, 100 * i + 1, 1, i % 2, i);
        }
    }

    /** 14: "true; false, when there are 10." */
    private static void keepOutWithTen() {
        Edges.taken("a tenth", x -> keepOuts(x, 9), 1, x -> one(x.keepOut(-99, -99, 99, 99, 1, 0)));
        Edges.idle("an eleventh", x -> keepOuts(x, 10), 0, x -> one(x.keepOut(-99, -99, 99, 99, 1, 0)));
        Edges.idle("a twelfth", x -> keepOuts(x, 10), 0, x -> one(x.keepOut(0, 0, 9, 9, 0, 0) || x.keepOut(0, 0, 9, 9, 0, 0)));
        Edges.noArgument("an eleventh, wrong", x -> keepOuts(x, 10), x -> one(x.keepOut(0, 0, 0, 9, 0, 0)));
        BodySolids x = Edges.made(y -> keepOuts(y, 9));
        Due.is("one breaks the first", x.breaks(0), 0);
        Due.is("and no other", x.breaks(1), BodySolids.NONE);
        Due.yes("a tenth", x.keepOut(-99, -99, 99, 99, 1, 0));
        Due.is("another breaks the tenth", x.breaks(1), 3);
        Due.no("an eleventh", x.keepOut(-99, -99, 99, 99, 0, 0));
        Due.is("none breaks the eleventh", x.breaks(2), BodySolids.NONE);
    }

    /** 14: "IllegalArgumentException, when the rectangle has no inside". */
    private static void keepOutWithoutInside() {
        for (int side = 0; side < 2; side++) {
            int each = side;
            Edges.taken("1 by 1", Edges::some, 1, x -> one(x.keepOut(7, 7, 8, 8, each, 1)));
            Edges.noArgument("0 by 1", Edges::some, x -> one(x.keepOut(7, 7, 7, 8, each, 1)));
            Edges.noArgument("1 by 0", Edges::some, x -> one(x.keepOut(7, 7, 8, 7, each, 1)));
            Edges.noArgument("0 by 0", Edges::some, x -> one(x.keepOut(7, 7, 7, 7, each, 1)));
            Edges.noArgument("-1 by 1", Edges::some, x -> one(x.keepOut(7, 7, 6, 8, each, 1)));
            Edges.noArgument("1 by -1", Edges::some, x -> one(x.keepOut(7, 7, 8, 6, each, 1)));
            Edges.noArgument("-1 by -1", Edges::some, x -> one(x.keepOut(7, 7, 6, 6, each, 1)));
        }
        Edges.range("x0 below 5", Edges::some, -20000, 4, 1, (x, v) -> one(x.keepOut(v, 0, 5, 5, 0, 0)));
        Edges.range("y0 below 5", Edges::some, -20000, 4, 1, (x, v) -> one(x.keepOut(0, v, 5, 5, 0, 0)));
        Edges.range("x1 above 5", Edges::some, 6, 20000, 1, (x, v) -> one(x.keepOut(5, 0, v, 5, 0, 0)));
        Edges.range("y1 above 5", Edges::some, 6, 20000, 1, (x, v) -> one(x.keepOut(0, 5, 5, v, 0, 0)));
    }

    /** 14: "or is not within -20,000 .. 20,000". */
    private static void keepOutNotWithin() {
        Edges.range("x0", Edges::some, -20000, 19999, 1, (x, v) -> one(x.keepOut(v, 0, 20000, 1, 0, 0)));
        Edges.range("y0", Edges::some, -20000, 19999, 1, (x, v) -> one(x.keepOut(0, v, 1, 20000, 0, 0)));
        Edges.range("x1", Edges::some, -19999, 20000, 1, (x, v) -> one(x.keepOut(-20000, 0, v, 1, 0, 0)));
        Edges.range("y1", Edges::some, -19999, 20000, 1, (x, v) -> one(x.keepOut(0, -20000, 1, v, 0, 0)));
        Edges.taken("the greatest", Edges::some, 1, x -> one(x.keepOut(-20000, -20000, 20000, 20000, 1, 20000)));
        Edges.noArgument("all below", Edges::some, x -> one(x.keepOut(-20002, -20002, -20001, -20001, 0, 0)));
        Edges.noArgument("all above", Edges::some, x -> one(x.keepOut(20001, 20001, 20002, 20002, 0, 0)));
        Edges.noArgument("wraps round", Edges::some, x -> one(x.keepOut(Long.MAX_VALUE, 0, Long.MIN_VALUE, 1, 0, 0)));
    }

    /** 14: "side is not 0, 1, or the height not 0 .. 20,000." */
    private static void keepOutsSideAndHeight() {
        Edges.choice("side", Edges::some, 1, 1, (x, v) -> one(x.keepOut(-99, -99, 99, 99, (int) v, 0)));
        Edges.range("height", Edges::some, 0, 20000, 1, (x, v) -> one(x.keepOut(-99, -99, 99, 99, 0, v)));
        Edges.range("height on side 1", Edges::some, 0, 20000, 1, (x, v) -> one(x.keepOut(-99, -99, 99, 99, 1, v)));
    }

    private static void keepOutsRefusedCountNot() {
        BodySolids x = Edges.made(Edges::some);
        for (int i = 1; i < 10; i++) {
            Due.argument("no inside", () -> x.keepOut(0, 0, 0, 1, 1, 0));
            Due.argument("no height", () -> x.keepOut(-99, -99, 99, 99, 1, -1));
            Due.argument("no side", () -> x.keepOut(-99, -99, 99, 99, 2, 0));
            Due.yes("refused ones count not", x.keepOut(500, 500, 501, 501, 1, 0));
        }
        Due.no("ten are all", x.keepOut(-99, -99, 99, 99, 1, 0));
        Due.is("one is broken as before", x.breaks(0), 0);
        Due.is("none of the refused is", x.breaks(1), BodySolids.NONE);
    }

    private static void row(BodySolids x, int breaking) {
        x.body();
        x.box(0, 0, 0, 0, 2, 2, 2);
        x.keepOut(0, 0, 10, 10, 0, 1);
        x.keepOut(-5, -5, 5, 5, 0, 0);
        x.place(0, 50, 0, 0, 0);
        for (int i = 0; i < 29; i++) {
            x.place(0, i < breaking ? 3 : 50, 3, 0, 0);
        }
    }

    /** 15: "NONE, when there are not so many (or k is below 0)." */
    private static void breaksOfNotSoMany() {
        for (int breaking = 0; breaking <= 29; breaking += breaking < 2 ? 1 : 27) {
            int all = breaking;
            long[] due = new long[breaking];
            for (int k = 0; k < breaking; k++) {
                due[k] = k + 1;
            }
            Edges.listed("breaks of " + breaking, x -> row(x, all), due, (x, v) -> x.breaks((int) v));
        }
        Edges.listed("breaks of no keep-out", x -> {
            x.body();
            x.box(0, 0, 0, 0, 2, 2, 2);
            x.place(0, 0, 0, 0, 0);
        }, new long[0], (x, v) -> x.breaks((int) v));
        Edges.listed("breaks of no placement", x -> {
            x.body();
            x.keepOut(0, 0, 9, 9, 0, 0);
        }, new long[0], (x, v) -> x.breaks((int) v));
        Edges.listed("breaks of an empty body", x -> {
            x.body();
            x.keepOut(0, 0, 9, 9, 0, 0);
            x.place(0, 5, 5, 0, 0);
        }, new long[0], (x, v) -> x.breaks((int) v));
    }

    /** "over (on side 1: under) the inside of the rectangle": one less is over it, at its end none is. */
    private static void breaksAtTheRectanglesEnds() {
        for (int side = 0; side < 2; side++) {
            long[][] beside = {{-1, 3}, {10, 3}, {3, -1}, {3, 10}, {-1, -1}, {10, 10}, {-1, 10}, {10, -1}};
            long[][] over = {{0, 3}, {9, 3}, {3, 0}, {3, 9}, {0, 0}, {9, 9}, {0, 9}, {9, 0}};
            for (int i = 0; i < beside.length; i++) {
                BodySolids x = new BodySolids(5);
                x.body();
                x.box(0, 0, 0, 0, 1, 1, 1);
                x.keepOut(0, 0, 10, 10, side, 0);
                x.place(0, beside[i][0] + side, beside[i][1], 0, side);
                Due.is("a box beside the rectangle " + i, x.breaks(0), BodySolids.NONE);
                x.move(0, over[i][0] + side, over[i][1], 0, side);
                Due.is("a box over it " + i, x.breaks(0), 0);
            }
        }
    }

    /** "farther than H from the board": as far is not farther. */
    private static void breaksAtTheHeight() {
        long[] heights = {0, 1, 4, 5, 4999, 5000, 20000};
        for (long height : heights) {
            for (int side = 0; side < 2; side++) {
                BodySolids x = new BodySolids(1000);
                x.body();
                x.body();
                x.box(0, 0, 0, 0, 1, 1, 5);
                x.box(1, 0, 0, 4998, 1, 1, 2);
                x.keepOut(-9, -9, 9, 9, side, height);
                x.place(0, 0, 0, 0, side);
                Due.is("5 far, height " + height, x.breaks(0), height < 5 ? 0 : BodySolids.NONE);
                x.place(1, 0, 0, 0, side);
                int behind = height < 5 ? 1 : 0;
                Due.is("5,000 far, height " + height, x.breaks(behind), height < 5000 ? 1 : BodySolids.NONE);
            }
        }
        BodySolids x = new BodySolids(0);
        x.body();
        x.tube(0, 500, 0, 0, 5000, 0, 0);
        x.place(0, 0, 0, 0, 0);
        x.place(0, 0, 0, 0, 1);
        x.keepOut(-1, -1, 1, 1, 0, 5500);
        x.keepOut(-1, -1, 1, 1, 1, 5500);
        Due.is("the highest ball, as high as it is", x.breaks(0), BodySolids.NONE);
        x.keepOut(-1, -1, 1, 1, 1, 5499);
        Due.is("one less on side 1", x.breaks(0), 1);
        x.keepOut(-1, -1, 1, 1, 0, 5499);
        Due.is("one less on side 0", x.breaks(0), 0);
    }

    /** "a placement on that side BREAKS it". */
    private static void breaksOnItsSideAlone() {
        for (int side = 0; side < 2; side++) {
            BodySolids x = new BodySolids(0);
            x.body();
            x.box(0, -2, -2, 0, 4, 4, 4);
            x.keepOut(-1, -1, 1, 1, side, 0);
            x.place(0, 0, 0, 0, 1 - side);
            Due.is("on the other side", x.breaks(0), BodySolids.NONE);
            x.move(0, 0, 0, 0, side);
            Due.is("on its side", x.breaks(0), 0);
            x.move(0, 0, 0, 0, 1 - side);
            Due.is("on the other side again", x.breaks(0), BodySolids.NONE);
        }
    }

    /** 16: "IndexOutOfBoundsException, when there is no such placement". */
    private static void boundOfNoSuchPlacement() {
        for (int what = 0; what < 6; what++) {
            int each = what;
            Edges.numbers("bound " + what, Edges::some, 4, (x, v) -> x.bound((int) v, each));
            long[] first = {1, -2, 0, 12, 6, 5};
            long[] last = {-10, 0, -8, 1, 8, -3};
            Edges.idle("bound of the first " + what, Edges::some, first[what], x -> x.bound(0, each));
            Edges.idle("bound of the last " + what, Edges::some, last[what], x -> x.bound(3, each));
        }
    }

    /** 16: "or what": so where the body is empty, too. */
    private static void boundOfNoSuchWhat() {
        for (int place = -1; place < 5; place++) {
            int each = place;
            Edges.numbers("what of placement " + place, Edges::some, 6, (x, v) -> x.bound(each, (int) v));
        }
    }

    /** 16: "IllegalStateException, when its body is empty." */
    private static void boundOfAnEmptyBody() {
        for (int what = 0; what < 6; what++) {
            int each = what;
            Edges.noState("bound of an empty body " + what, Edges::some, x -> x.bound(2, each));
        }
        BodySolids x = Edges.made(Edges::some);
        Due.argument("a refused box", () -> x.box(2, 0, 0, 0, 0, 1, 1));
        Due.state("is no solid", () -> x.bound(2, 0));
        Due.is("two empty ones joined", x.join(2, 2), 3);
        Due.is("and placed", x.place(3, 0, 0, 0, 0), 4);
        Due.state("are empty", () -> x.bound(4, 5));
        Due.yes("a ball", x.tube(2, 1, 0, 0, 1, 0, 0));
        Due.is("is a solid", x.bound(2, 0), 4);
        Due.state("of its own body alone", () -> x.bound(4, 0));
    }

    /** 17: "NONE, when there are not so many (or k is below 0)." */
    private static void sectionOfNotSoMany() {
        // By what: of the box, then of the cylinder.
        long[][] over = {{0, 0}, {0, 1}, {1, 8}, {2, -2}, {4, 12}, {6, 2}};
        long[][] under = {{3, 3}, {0, 1}, {-2, -10}, {4, 0}, {1, -6}, {8, 4}};
        for (int what = 0; what < 6; what++) {
            int each = what;
            Edges.listed("section over the board " + what, Edges::some, over[what], (x, v) -> x.section(3, (int) v, each));
            Edges.listed("section under the board " + what, Edges::some, under[what], (x, v) -> x.section(-6, (int) v, each));
            Edges.listed("section in the board " + what, Edges::some, new long[0], (x, v) -> x.section(-1, (int) v, each));
            Edges.listed("section over all " + what, Edges::some, new long[0], (x, v) -> x.section(5, (int) v, each));
        }
    }

    /** 17: "that have inner points there": at their ends they have none. */
    private static void sectionOfInnerPoints() {
        BodySolids x = new BodySolids(1000);
        x.body();
        x.box(0, 0, 0, 0, 1, 1, 2);
        x.cylinder(0, 0, 0, 2, 1, 2);
        x.corner(0, 0);
        x.corner(1, 0);
        x.corner(0, 1);
        x.prism(0, 4, 2);
        x.box(0, 0, 0, 4998, 1, 1, 2);
        x.box(0, 0, 0, 4999, 1, 1, 1);
        x.place(0, 0, 0, 0, 0);
        x.place(0, 0, 0, 0, 1);
        long[][] due = {{-1, -1}, {0, -1}, {1, 0}, {2, -1}, {3, 1}, {4, -1}, {5, 2}, {6, -1}, {4998, -1}, {4999, 3}, {5000, -1}, {5001, -1}};
        for (long[] each : due) {
            Due.is("section at " + each[0], x.section(each[0], 0, 1), each[1]);
            Due.is("no second one at " + each[0], x.section(each[0], 1, 1), BodySolids.NONE);
            Due.is("section at -1,000 - " + each[0], x.section(-1000 - each[0], 0, 1), each[1]);
            Due.is("of placement", x.section(-1000 - each[0], 0, 0), each[1] < 0 ? BodySolids.NONE : 1);
        }
        Due.is("at the least height", x.section(Long.MIN_VALUE, 0, 0), BodySolids.NONE);
        Due.is("at the greatest height", x.section(Long.MAX_VALUE, 0, 0), BodySolids.NONE);
    }

    /** 17: "IndexOutOfBoundsException, when what is not 0 .. 5." So where there are not so many, too. */
    private static void sectionOfNoSuchWhat() {
        for (int k = -1; k < 4; k++) {
            int each = k;
            Edges.numbers("what, k " + k, Edges::some, 6, (x, v) -> x.section(3, each, (int) v));
            Edges.numbers("what over all, k " + k, Edges::some, 6, (x, v) -> x.section(9999, each, (int) v));
        }
    }

    /** 18: "IndexOutOfBoundsException, when there is no such body." */
    private static void massOfNoSuchBody() {
        Edges.numbers("mass", Edges::some, 3, (x, v) -> x.mass((int) v));
        long[] due = {226 * 60 + 710 * 16, 710 * 24, 0};
        for (int body = 0; body < 3; body++) {
            int each = body;
            Edges.idle("mass of body " + body, Edges::some, due[body], x -> x.mass(each));
        }
        Edges.numbers("mass with thirty", x -> {
            for (int i = 0; i < 30; i++) {
                x.body();
            }
        }, 30, (x, v) -> x.mass((int) v));
    }

    private static void massOfTheLeastAndTheGreatest() {
        BodySolids x = new BodySolids(0);
        for (int i = 0; i < 5; i++) {
            x.body();
        }
        x.box(0, 0, 0, 0, 1, 1, 1);
        Due.is("least box", x.mass(0), 226);
        x.cylinder(1, 0, 0, 0, 1, 1);
        Due.is("least cylinder", x.mass(1), 710);
        x.corner(0, 0);
        x.corner(1, 0);
        x.corner(0, 1);
        x.prism(2, 0, 1);
        Due.is("least prism", x.mass(2), 113);
        x.tube(3, 1, 0, 0, 1, 0, 1);
        Due.is("least tube", x.mass(3), 710);
        x.tube(3, 500, 5000, 0, 500, 0, -10000);
        Due.is("and the greatest", x.mass(3), 710 + 710L * 500 * 500 * 10000);
        x.cylinder(4, 0, 0, 0, 5000, 5000);
        Due.is("greatest cylinder", x.mass(4), 710L * 5000 * 5000 * 5000);
        x.box(4, 0, 0, 0, 5000, 5000, 5000);
        Due.is("and the greatest box", x.mass(4), 936L * 5000 * 5000 * 5000);
        for (int i = 2; i < 12; i++) {
            x.cylinder(4, 0, 0, 0, 5000, 5000);
        }
        Due.is("and ten more", x.mass(4), (936L + 7100) * 5000 * 5000 * 5000);
        x.cylinder(4, 0, 0, 0, 5000, 5000);
        Due.is("and none beyond twelve", x.mass(4), (936L + 7100) * 5000 * 5000 * 5000);
    }
}
