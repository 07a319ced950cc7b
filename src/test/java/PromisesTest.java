import java.util.Arrays;

/** Each promise of the document: ordinary inputs, the edges that it names, wrong inputs. */
final class PromisesTest {
    private static final long FAR = Long.MAX_VALUE;
    private static final long DEEP = Long.MIN_VALUE;

    public static void main(String[] args) {
        newObject();
        body();
        box();
        cylinder();
        corner();
        prism();
        polygons();
        tube();
        tubeLimits();
        join();
        place();
        placeTurns();
        move();
        clash();
        clashIsNeverStale();
        clashOfEachTwoKinds();
        clashesAndPair();
        keepOut();
        breaks();
        breaksAtEdges();
        breaksOfFullBodies();
        bound();
        section();
        mass();
        Due.end();
    }

    private static BodySolids withBodies(long thickness, int count) {
        BodySolids x = new BodySolids(thickness);
        for (int i = 0; i < count; i++) {
            Due.is("body()", x.body(), i);
        }
        return x;
    }

    private static boolean triangle(BodySolids x, int body, long size) {
        x.corner(0, 0);
        x.corner(size, 0);
        x.corner(0, size);
        return x.prism(body, 0, 1);
    }

    private static void fill(BodySolids x, int body) {
        for (int i = 0; i < 12; i++) {
            Due.yes("box number " + i, x.box(body, i, 0, 0, 1, 1, 1));
        }
    }

    private static void newObject() {
        long[] told = {DEEP, -1, 0, 1, 999, 1000, 1001, FAR};
        long[] due = {0, 0, 0, 1, 999, 1000, 1000, 1000};
        for (int i = 0; i < told.length; i++) {
            BodySolids x = new BodySolids(told[i]);
            Due.index("a new object has no body", () -> x.mass(0));
            Due.index("a new object has no placement", () -> x.bound(0, 0));
            Due.is("clashes() of a new object", x.clashes(), 0);
            Due.is("breaks(0) of a new object", x.breaks(0), -1);
            Due.is("section of a new object", x.section(0, 0, 0), -1);
            x.body();
            x.box(0, 0, 0, 3, 1, 1, 2);
            x.place(0, 0, 0, 0, 1);
            Due.is("greatest height below a board " + told[i], x.bound(0, 5), -due[i] - 3);
            Due.is("least height below a board " + told[i], x.bound(0, 2), -due[i] - 5);
        }
    }

    private static void body() {
        BodySolids x = withBodies(0, 30);
        Due.is("body() with 30", x.body(), -1);
        Due.is("body() with 30 again", x.body(), -1);
        Due.is("mass of the last", x.mass(29), 0);
        Due.index("mass(30)", () -> x.mass(30));
    }

    private static void box() {
        BodySolids x = withBodies(0, 2);
        Due.yes("box at the least place", x.box(0, -5000, -5000, 0, 5000, 5000, 5000));
        Due.yes("box at the greatest place", x.box(0, 4999, 4999, 4999, 1, 1, 1));
        Due.yes("box to the greatest place", x.box(0, 0, 0, 0, 5000, 5000, 5000));
        long[][] wrong = {
            {-5001, 0, 0, 1, 1, 1}, {5001, 0, 0, 1, 1, 1}, {5000, 0, 0, 1, 1, 1}, {0, -5001, 0, 1, 1, 1}, {0, 5000, 0, 1, 1, 1},
            {0, 0, -1, 1, 1, 1}, {0, 0, 5000, 1, 1, 1}, {0, 0, 1, 1, 1, 5000}, {0, 0, 0, 0, 1, 1}, {0, 0, 0, 1, 0, 1}, {0, 0, 0, 1, 1, 0},
            {-5000, 0, 0, 5001, 1, 1}, {0, -5000, 0, 1, 5001, 1}, {0, 0, 0, 1, 1, 5001}, {0, 0, 0, -1, 1, 1}, {0, 0, 0, 1, -1, 1},
            {0, 0, 0, 1, 1, -1}, {1, 0, 0, 5000, 1, 1}, {0, 1, 0, 1, 5000, 1}, {FAR, 0, 0, 1, 1, 1}, {0, DEEP, 0, 1, 1, 1},
            {0, 0, FAR, 1, 1, 1}, {0, 0, 0, FAR, 1, 1}, {0, 0, 0, 1, FAR, 1}, {0, 0, 0, 1, 1, FAR}, {1, 1, 1, FAR, DEEP, FAR},
        };
        for (long[] w : wrong) {
            Due.argument("box" + Arrays.toString(w), () -> x.box(1, w[0], w[1], w[2], w[3], w[4], w[5]));
        }
        Due.is("nothing came of wrong boxes", x.mass(1), 0);
        Due.index("box(-1)", () -> x.box(-1, 0, 0, 0, 1, 1, 1));
        Due.index("box(2)", () -> x.box(2, 0, 0, 0, 1, 1, 1));
        Due.index("box of no body, and wrong", () -> x.box(2, 0, 0, 0, 0, 1, 1));
        fill(x, 1);
        Due.no("box number 12", x.box(1, 0, 0, 0, 1, 1, 1));
        Due.is("mass of twelve boxes", x.mass(1), 12 * 226);
        Due.argument("a wrong box for a full body", () -> x.box(1, 0, 0, 0, 0, 1, 1));
    }

    private static void cylinder() {
        BodySolids x = withBodies(0, 2);
        Due.yes("greatest cylinder", x.cylinder(0, 5000, -5000, 0, 5000, 5000));
        Due.yes("least cylinder", x.cylinder(0, -5000, 5000, 4999, 1, 1));
        long[][] wrong = {
            {-5001, 0, 0, 1, 1}, {5001, 0, 0, 1, 1}, {0, -5001, 0, 1, 1}, {0, 5001, 0, 1, 1}, {0, 0, -1, 1, 1}, {0, 0, 5000, 1, 1},
            {0, 0, 0, 0, 1}, {0, 0, 0, 5001, 1}, {0, 0, 0, 1, 0}, {0, 0, 0, 1, 5001}, {0, 0, 1, 1, 5000}, {FAR, 0, 0, 1, 1},
            {0, 0, FAR, 1, 1}, {0, 0, 0, FAR, 1}, {0, 0, 0, DEEP, 1}, {0, 0, 1, 1, FAR},
        };
        for (long[] w : wrong) {
            Due.argument("cylinder" + Arrays.toString(w), () -> x.cylinder(1, w[0], w[1], w[2], w[3], w[4]));
        }
        Due.is("nothing came of wrong cylinders", x.mass(1), 0);
        Due.index("cylinder(-1)", () -> x.cylinder(-1, 0, 0, 0, 1, 1));
        Due.index("cylinder(2)", () -> x.cylinder(2, 0, 0, 0, 0, 1));
        fill(x, 1);
        Due.no("a thirteenth solid", x.cylinder(1, 0, 0, 0, 1, 1));
        Due.is("mass is as before", x.mass(1), 12 * 226);
    }

    private static void corner() {
        BodySolids x = withBodies(0, 1);
        Due.argument("corner(-5001, 0)", () -> x.corner(-5001, 0));
        Due.argument("corner(0, 5001)", () -> x.corner(0, 5001));
        Due.argument("corner(far)", () -> x.corner(FAR, DEEP));
        long[][] eight = {{-5000, -5000}, {5000, -5000}, {5000, 5000}, {4000, 5000}, {0, 4999}, {-2000, 4996}, {-4000, 4990}, {-5000, 4900}};
        for (long[] c : eight) {
            Due.yes("corner", x.corner(c[0], c[1]));
        }
        Due.no("a ninth corner", x.corner(-5000, 0));
        Due.argument("a ninth corner that is no place", () -> x.corner(-5000, 5001));
        Due.yes("the eight, at the farthest places", x.prism(0, 0, 1));
        Due.yes("they are gone", x.corner(0, 0));
    }

    private static void prism() {
        BodySolids x = withBodies(0, 2);
        Due.no("no corners", x.prism(0, 0, 1));
        Due.yes("a triangle", triangle(x, 0, 4));
        Due.is("mass of the triangle", x.mass(0), 226 * 8);
        Due.no("its corners are gone", x.prism(0, 0, 1));
        x.corner(0, 0);
        x.corner(4, 0);
        x.corner(0, 4);
        Due.index("prism(-1)", () -> x.prism(-1, 0, 1));
        Due.index("prism(2)", () -> x.prism(2, -1, 1));
        long[][] wrong = {{-1, 1}, {5000, 1}, {5001, 1}, {0, 0}, {0, 5001}, {1, 5000}, {FAR, 1}, {1, FAR}, {DEEP, 1}, {0, DEEP}};
        for (long[] w : wrong) {
            Due.argument("prism" + Arrays.toString(w), () -> x.prism(0, w[0], w[1]));
        }
        Due.yes("the corners stay when it throws", x.prism(0, 0, 5000));
        fill(x, 1);
        x.corner(0, 0);
        x.corner(1, 0);
        x.corner(0, 1);
        Due.no("a thirteenth solid", x.prism(1, 0, 1));
        Due.yes("the corners stay then", x.prism(0, 4999, 1));
        Due.is("mass", x.mass(0), 226 * 8 + 226 * 8 * 5000 + 113);
        x.corner(0, 0);
        x.corner(1, 0);
        Due.no("two corners for a full body", x.prism(1, 0, 1));
        Due.no("no corners are left to join", triangle(x, 1, 1));
        Due.yes("but these three stay", x.prism(0, 0, 1));
    }

    private static boolean polygon(BodySolids x, long... places) {
        for (int i = 0; i + 1 < places.length; i += 2) {
            x.corner(places[i], places[i + 1]);
        }
        return x.prism(0, 0, 1);
    }

    private static void polygons() {
        BodySolids x = withBodies(0, 1);
        Due.no("two corners", polygon(x, 0, 0, 4, 0));
        Due.no("to the right", polygon(x, 0, 0, 0, 4, 4, 0));
        Due.no("in one line", polygon(x, 0, 0, 2, 2, 4, 4));
        Due.no("a corner on a side", polygon(x, 0, 0, 2, 0, 4, 0, 0, 4));
        Due.no("a corner twice", polygon(x, 0, 0, 4, 0, 4, 0, 0, 4));
        Due.no("the first again at the end", polygon(x, 0, 0, 4, 0, 0, 4, 0, 0));
        Due.no("bent inwards", polygon(x, 0, 0, 4, 0, 1, 1, 0, 4));
        Due.no("crossing", polygon(x, 0, 0, 4, 4, 4, 0, 0, 4));
        Due.no("a star, all turns to the left", polygon(x, 0, 10, -6, -8, 10, 3, -10, 3, 6, -8));
        Due.no("twice around", polygon(x, 0, 0, 4, 0, 0, 4, 0, 0, 4, 0, 0, 4));
        Due.is("none of them is a solid", x.mass(0), 0);
        Due.yes("a square", polygon(x, 0, 0, 4, 0, 4, 4, 0, 4));
        Due.is("its mass", x.mass(0), 226 * 16);
        Due.yes("eight corners", polygon(x, 1, 0, 2, 0, 3, 1, 3, 2, 2, 3, 1, 3, 0, 2, 0, 1));
        Due.is("with its mass", x.mass(0), 226 * 16 + 226 * 7);
        Due.yes("thin and long", polygon(x, -5000, -5000, 5000, 4999, 5000, 5000));
        Due.is("with its mass, too", x.mass(0), 226 * 23 + 113 * 10000);
    }

    private static void tube() {
        BodySolids x = withBodies(10, 2);
        Due.yes("tube along x", x.tube(0, 2, 1, 2, 3, 0, 6));
        Due.yes("tube back along y", x.tube(0, 1, 1, 2, 3, 1, -7));
        Due.yes("tube down", x.tube(0, 1, 1, 2, 9, 2, -8));
        Due.yes("ball", x.tube(0, 3, 0, 0, 3, 2, 0));
        Due.is("mass of tubes", x.mass(0), 710 * (4 * 6 + 7 + 8));
        x.place(0, 0, 0, 0, 0);
        long[] due = {-3, -6, 0, 9, 4, 10};
        for (int i = 0; i < 6; i++) {
            Due.is("bound of tubes " + i, x.bound(0, i), due[i]);
        }
        Due.is("tubes are in no section", x.section(3, 0, 0), -1);
        fill(x, 1);
        Due.no("a thirteenth solid", x.tube(1, 1, 0, 0, 1, 0, 0));
    }

    private static void tubeLimits() {
        BodySolids x = withBodies(0, 2);
        Due.yes("longest tube", x.tube(0, 500, -5000, -5000, 500, 0, 10000));
        Due.yes("longest tube back", x.tube(0, 500, 5000, 5000, 5000, 1, -10000));
        Due.yes("from the lowest to the highest", x.tube(0, 1, 0, 0, 1, 2, 4999));
        Due.yes("the other way", x.tube(0, 1, 0, 0, 5000, 2, -4999));
        long[][] wrong = {
            {0, 0, 0, 5, 0, 1}, {501, 0, 0, 501, 0, 1}, {-1, 0, 0, 5, 0, 1}, {1, -5001, 0, 5, 0, 1}, {1, 5001, 0, 5, 0, -1},
            {1, 0, -5001, 5, 0, 1}, {1, 0, 5001, 5, 1, -1}, {2, 0, 0, 1, 0, 1}, {2, 0, 0, 0, 2, 5}, {1, 0, 0, 5001, 2, -1},
            {1, 0, 0, 5, 3, 1}, {1, 0, 0, 5, -1, 1}, {1, 0, 0, 5, 3, 0}, {1, -5000, 0, 5, 0, 10001}, {1, 5000, 0, 5, 0, -10001},
            {1, 1, 0, 5, 0, 5000}, {1, -1, 0, 5, 0, -5000}, {1, 0, 1, 5, 1, 5000}, {1, 0, -1, 5, 1, -5000}, {1, 0, 0, 2, 2, 4999},
            {2, 0, 0, 5, 2, -4}, {FAR, 0, 0, 5, 0, 1}, {1, FAR, 0, 5, 0, 1}, {1, 0, DEEP, 5, 0, 1}, {1, 0, 0, FAR, 0, 1},
            {1, 1, 0, 5, 0, FAR}, {1, -5, 0, 5, 0, DEEP}, {500, 0, 0, 499, 0, 1},
        };
        for (long[] w : wrong) {
            Due.argument("tube" + Arrays.toString(w), () -> x.tube(1, w[0], w[1], w[2], w[3], (int) w[4], w[5]));
        }
        Due.is("nothing came of wrong tubes", x.mass(1), 0);
        Due.index("tube(-1)", () -> x.tube(-1, 1, 0, 0, 5, 0, 1));
        Due.index("tube(2)", () -> x.tube(2, 0, 0, 0, 5, 0, 1));
    }

    private static void join() {
        BodySolids x = withBodies(0, 3);
        x.box(0, 0, 0, 0, 1, 1, 1);
        x.cylinder(0, 20, 0, 0, 1, 1);
        x.box(1, 40, 0, 0, 2, 1, 1);
        Due.is("join(0, 1)", x.join(0, 1), 3);
        Due.is("its mass", x.mass(3), 226 + 710 + 452);
        x.box(0, 0, 0, 5, 1, 1, 10);
        Due.is("a joined body stays as it is", x.mass(3), 226 + 710 + 452);
        Due.is("empty with empty", x.join(2, 2), 4);
        Due.is("mass of that", x.mass(4), 0);
        fill(x, 4);
        Due.is("twelve and none", x.join(4, 2), 5);
        Due.is("none and twelve", x.join(2, 4), 6);
        Due.is("twelve and one", x.join(4, 1), -1);
        Due.is("mass of twelve", x.mass(6), 12 * 226);
        Due.no("a joined body is full, too", x.box(6, 0, 0, 0, 1, 1, 1));
        Due.index("join(-1, 0)", () -> x.join(-1, 0));
        Due.index("join(0, 7)", () -> x.join(0, 7));
        for (int i = 7; i < 30; i++) {
            Due.is("join up to 30", x.join(0, 1), i);
        }
        Due.is("join with 30", x.join(0, 1), -1);
        Due.index("join with 30 of none", () -> x.join(0, 30));
        orderOfJoined();
    }

    private static void orderOfJoined() {
        BodySolids x = withBodies(0, 2);
        x.box(0, 0, 0, 0, 1, 1, 3);
        x.tube(0, 1, 0, 0, 1, 0, 5);
        x.box(1, 40, 0, 0, 2, 1, 3);
        x.place(x.join(1, 0), 0, 0, 0, 0);
        Due.is("of the second body: number", x.section(1, 1, 1), 1);
        Due.is("of the second body: x", x.section(1, 1, 2), 0);
        Due.is("of the first body: number", x.section(1, 0, 1), 0);
        Due.is("of the first body: x", x.section(1, 0, 2), 40);
        Due.is("the tube is no section", x.section(1, 2, 1), -1);
    }

    private static void place() {
        BodySolids x = withBodies(0, 1);
        Due.index("place(-1)", () -> x.place(-1, 0, 0, 0, 0));
        Due.index("place(1), wrong too", () -> x.place(1, 10001, 0, 0, 0));
        long[][] wrong = {{-10001, 0, 0, 0}, {10001, 0, 0, 0}, {0, -10001, 0, 0}, {0, 10001, 0, 0}, {0, 0, -1, 0}, {0, 0, 4, 0},
            {0, 0, 0, -1}, {0, 0, 0, 2}, {FAR, 0, 0, 0}, {0, DEEP, 0, 0}};
        for (long[] w : wrong) {
            Due.argument("place" + Arrays.toString(w), () -> x.place(0, w[0], w[1], (int) w[2], (int) w[3]));
        }
        Due.is("at the least", x.place(0, -10000, -10000, 3, 1), 0);
        Due.is("at the greatest", x.place(0, 10000, 10000, 0, 0), 1);
        for (int i = 2; i < 30; i++) {
            Due.is("place up to 30", x.place(0, i * 10, 0, 0, 0), i);
        }
        Due.is("place with 30", x.place(0, 0, 0, 0, 0), -1);
        Due.argument("a wrong place with 30", () -> x.place(0, 0, 0, 4, 0));
        Due.state("empty as it is now", () -> x.bound(5, 0));
        x.box(0, 1, 2, 3, 1, 1, 1);
        Due.is("a body as it will be", x.bound(5, 0), 51);
    }

    private static void placeTurns() {
        // A box from 1, 2 on, 3 and 5 long, on both sides of a board of 7, at 100, 200.
        long[][] due = {
            {101, 202, 10, 104, 207, 14}, {93, 201, 10, 98, 204, 14}, {96, 193, 10, 99, 198, 14}, {102, 196, 10, 107, 199, 14},
            {96, 202, -21, 99, 207, -17}, {93, 196, -21, 98, 199, -17}, {101, 193, -21, 104, 198, -17}, {102, 201, -21, 107, 204, -17},
        };
        for (int i = 0; i < 8; i++) {
            BodySolids x = withBodies(7, 1);
            x.box(0, 1, 2, 10, 3, 5, 4);
            x.place(0, 100, 200, i % 4, i / 4);
            for (int what = 0; what < 6; what++) {
                Due.is("turn " + i % 4 + " side " + i / 4 + " bound " + what, x.bound(0, what), due[i][what]);
            }
        }
    }

    private static void move() {
        BodySolids x = withBodies(5, 1);
        x.box(0, 0, 0, 0, 4, 2, 1);
        x.place(0, 1, 2, 3, 0);
        Due.no("to where it is", x.move(0, 1, 2, 3, 0));
        Due.yes("another x", x.move(0, 2, 2, 3, 0));
        Due.yes("another y", x.move(0, 2, 3, 3, 0));
        Due.yes("another turn", x.move(0, 2, 3, 2, 0));
        Due.yes("another side", x.move(0, 2, 3, 2, 1));
        Due.no("no more", x.move(0, 2, 3, 2, 1));
        Due.is("where it is now", x.bound(0, 0), 2);
        Due.is("how high it is now", x.bound(0, 2), -6);
        Due.index("move(-1)", () -> x.move(-1, 0, 0, 0, 0));
        Due.index("move(1), wrong too", () -> x.move(1, 0, 0, 4, 0));
        Due.argument("move x", () -> x.move(0, 10001, 0, 0, 0));
        Due.argument("move y", () -> x.move(0, 0, DEEP, 0, 0));
        Due.argument("move turn", () -> x.move(0, 0, 0, 4, 0));
        Due.argument("move turn below", () -> x.move(0, 0, 0, -1, 0));
        Due.argument("move side", () -> x.move(0, 0, 0, 0, 2));
        Due.no("it has not moved", x.move(0, 2, 3, 2, 1));
        Due.yes("to the farthest", x.move(0, -10000, 10000, 2, 1));
    }

    private static void clash() {
        BodySolids x = withBodies(3, 2);
        x.box(0, 0, 0, 0, 10, 10, 10);
        x.box(1, 0, 0, 0, 4, 4, 4);
        x.place(0, 0, 0, 0, 0);
        x.place(1, 0, 0, 0, 0);
        long[][] cases = {{3, 3, 1}, {9, 9, 1}, {10, 3, 2}, {10, 10, 2}, {11, 3, 0}, {-4, 0, 2}, {-3, -3, 1}, {-4, -4, 2}, {-5, 0, 0}, {3, 11, 0}};
        for (long[] c : cases) {
            x.move(1, c[0], c[1], 0, 0);
            Due.is("clash at " + c[0] + ", " + c[1], x.clash(0, 1), c[2]);
            Due.is("clash the other way", x.clash(1, 0), c[2]);
        }
        x.move(1, 5, 5, 0, 1);
        Due.is("on the other side of a thick board", x.clash(0, 1), 0);
        Due.is("of one with itself", x.clash(0, 0), 0);
        Due.index("clash(-1, 0)", () -> x.clash(-1, 0));
        Due.index("clash(0, 2)", () -> x.clash(0, 2));
        Due.index("clash(2, 2)", () -> x.clash(2, 2));
    }

    private static void clashIsNeverStale() {
        BodySolids x = withBodies(0, 3);
        x.place(0, 0, 0, 0, 0);
        x.place(1, 0, 0, 0, 0);
        x.place(1, 3, 0, 0, 0);
        Due.is("empty bodies", x.clash(0, 1), 0);
        x.box(0, 0, 0, 0, 3, 3, 3);
        Due.is("with an empty body", x.clash(0, 1), 0);
        x.tube(1, 1, 0, 0, 4, 2, 0);
        Due.is("a ball on a box", x.clash(0, 1), 2);
        Due.is("a ball on a box's corner", x.clash(0, 2), 2);
        x.corner(0, 0);
        x.corner(1, 0);
        x.corner(0, 1);
        x.prism(1, 2, 1);
        Due.is("and a prism in it", x.clash(0, 1), 1);
        Due.is("and a prism beside it", x.clash(0, 2), 2);
        Due.is("clashes", x.clashes(), 1);
        x.cylinder(0, 4, 0, 0, 1, 3);
        Due.is("and a cylinder", x.clash(0, 2), 1);
        Due.is("clashes then", x.clashes(), 2);
        x.move(0, 50, 0, 0, 0);
        Due.is("clashes of the moved one", x.clashes(), 0);
    }

    private static void kinds(String what, BodySolids x, long touchX, long y, int side) {
        x.place(0, 0, 0, 0, side);
        x.place(1, touchX, y, 0, side);
        Due.is(what + " touch", x.clash(0, 1), 2);
        x.move(1, touchX - 1, y, 0, side);
        Due.is(what + " clash", x.clash(0, 1), 1);
        x.move(1, touchX + 1, y, 0, side);
        Due.is(what + " apart", x.clash(0, 1), 0);
    }

    private static void clashOfEachTwoKinds() {
        BodySolids x = withBodies(0, 2);
        x.cylinder(0, 0, 0, 0, 10, 4);
        x.cylinder(1, 0, 0, 2, 15, 4);
        kinds("cylinders (15, 20, 25)", x, 15, 20, 0);
        x = withBodies(0, 2);
        x.cylinder(0, 0, 0, 0, 5, 4);
        x.box(1, 0, 0, 2, 9, 9, 4);
        kinds("cylinder and box's corner (3, 4, 5)", x, 3, 4, 0);
        x = withBodies(0, 2);
        x.cylinder(0, 0, 0, 0, 5, 4);
        polygonAt(x, 1, 2, 0, 0, 4, -3, 4, 3);
        kinds("cylinder and prism's corner", x, 5, 0, 0);
        x = withBodies(0, 2);
        x.cylinder(0, 0, 0, 0, 5, 4);
        polygonAt(x, 1, 2, -8, 6, 8, -6, 8, 6);
        kinds("cylinder and prism's slope (3, 4, 5)", x, 3, 4, 0);
        x = withBodies(0, 2);
        x.box(0, 0, 0, 0, 3, 3, 3);
        polygonAt(x, 1, 2, -5, 5, 5, -5, 5, 5);
        kinds("box's corner and prism's slope", x, 3, 3, 0);
        x = withBodies(0, 2);
        polygonAt(x, 0, 0, 0, 0, 6, 0, 0, 6);
        polygonAt(x, 1, 2, -5, 5, 5, -5, 5, 5);
        kinds("two slopes", x, 3, 3, 0);
        roundKinds();
    }

    private static void roundKinds() {
        BodySolids x = withBodies(0, 2);
        x.tube(0, 2, 0, 0, 2, 1, 10);
        x.tube(1, 3, 0, 5, 6, 0, 9);
        kinds("tubes across (3, 4, 5)", x, 3, 0, 0);
        x = withBodies(0, 2);
        x.tube(0, 3, 0, 0, 3, 2, 0);
        x.tube(1, 4, 0, 0, 9, 2, 8);
        kinds("ball and a tube upright (2, 3, 6, 7)", x, 2, 3, 1);
        x = withBodies(0, 2);
        x.tube(0, 5, 0, 0, 5, 0, 9);
        x.box(1, -5, 0, 9, 5, 5, 5);
        kinds("tube and a box's edge (3, 4, 5)", x, 3, -2, 1);
        x = withBodies(0, 2);
        x.tube(0, 5, 0, 0, 5, 0, -9);
        x.cylinder(1, 0, 0, 8, 6, 5);
        kinds("tube's end and a cylinder's edge (4, 3, 5)", x, 10, 0, 0);
        x = withBodies(0, 2);
        x.tube(0, 5, 0, 0, 5, 1, 9);
        polygonAt(x, 1, 9, -4, -1, 0, -1, 0, 9);
        kinds("tube and a prism's edge (3, 4, 5)", x, 3, 0, 1);
        roundEnds();
        roundUnderSlope();
    }

    private static void roundEnds() {
        BodySolids x = withBodies(0, 2);
        x.tube(0, 10, 0, 0, 10, 2, 10);
        x.cylinder(1, 0, 0, 28, 17, 5);
        x.place(0, 0, 0, 0, 0);
        x.place(1, 23, 0, 0, 0);
        // 8 over the core's upper end the tube is 6 wide, and 17 + 6 = 23.
        long[][] cases = {{23, 0, 2}, {0, -23, 2}, {22, 6, 1}, {16, 16, 1}, {22, 7, 0}, {16, 17, 0}, {0, -24, 0}, {3, 4, 1}};
        for (long[] c : cases) {
            x.move(1, c[0], c[1], 0, 0);
            Due.is("tube's top and a cylinder's edge at " + c[0] + ", " + c[1], x.clash(0, 1), c[2]);
        }
    }

    private static void roundUnderSlope() {
        BodySolids x = withBodies(0, 2);
        x.tube(0, 25, 0, 0, 25, 0, -9);
        polygonAt(x, 1, 40, -28, 21, 28, -21, 28, 21);
        x.place(0, 0, 0, 0, 0);
        x.place(1, 0, 0, 0, 0);
        // 15 over the core the tube is 20 wide; the slope is (3 * x + 4 * y) / 5 away from the core's end.
        long[][] cases = {{0, 0, 1}, {12, 16, 2}, {12, 15, 1}, {11, 16, 1}, {13, 16, 0}, {20, 10, 2}, {20, 25, 0}, {8, 19, 2}};
        for (long[] c : cases) {
            x.move(1, c[0], c[1], 0, 0);
            Due.is("tube's end and a prism's slope at " + c[0] + ", " + c[1], x.clash(0, 1), c[2]);
        }
        x = withBodies(0, 2);
        x.tube(0, 10, 0, 0, 10, 0, -9);
        polygonAt(x, 1, 20, -8, 6, 8, -6, 8, 6);
        x.place(0, 0, 0, 0, 1);
        x.place(1, 0, 0, 0, 1);
        Due.is("tube's line on a prism", x.clash(0, 1), 2);
        x.move(1, -9, 0, 0, 1);
        Due.is("tube's line away from a prism", x.clash(0, 1), 0);
    }

    private static void polygonAt(BodySolids x, int body, long z, long... places) {
        for (int i = 0; i + 1 < places.length; i += 2) {
            x.corner(places[i], places[i + 1]);
        }
        Due.yes("prism", x.prism(body, z, 5));
    }

    private static void clashesAndPair() {
        BodySolids x = withBodies(0, 1);
        x.box(0, 0, 0, 0, 10, 10, 10);
        Due.is("clashes of none", x.clashes(), 0);
        long[] at = {0, 5, 100, 9, 105, 10};
        for (int i = 0; i < at.length; i++) {
            x.place(0, at[i], 0, 0, 0);
        }
        int[][] due = {{0, 1}, {0, 3}, {1, 3}, {1, 5}, {2, 4}, {3, 5}};
        Due.is("clashes", x.clashes(), due.length);
        for (int k = 0; k < due.length; k++) {
            Due.is("lower of pair " + k, x.pair(k, 0), due[k][0]);
            Due.is("other of pair " + k, x.pair(k, 1), due[k][1]);
        }
        Due.is("touching is no pair", x.clash(0, 5), 2);
        Due.is("pair(6, 0)", x.pair(6, 0), -1);
        Due.is("pair(6, 1)", x.pair(6, 1), -1);
        Due.is("pair(-1, 1)", x.pair(-1, 1), -1);
        Due.is("pair(least, 0)", x.pair(Integer.MIN_VALUE, 0), -1);
        Due.is("pair(greatest, 0)", x.pair(Integer.MAX_VALUE, 0), -1);
        Due.index("pair(0, 2)", () -> x.pair(0, 2));
        Due.index("pair(0, -1)", () -> x.pair(0, -1));
        Due.index("pair(99, 2)", () -> x.pair(99, 2));
        Due.index("pair(-1, 2)", () -> x.pair(-1, 2));
        for (int i = at.length; i < 30; i++) {
            x.place(0, 5, 0, 0, 0);
        }
        for (int i = 0; i < 30; i++) {
            x.move(i, i % 4 == 1 || i % 4 == 2 ? 10 : 0, i % 4 > 1 ? 10 : 0, i % 4, 0);
        }
        Due.is("all of thirty clash", x.clashes(), 435);
        Due.is("the last pair", x.pair(434, 0) * 100 + x.pair(434, 1), 2829);
        Due.is("no pair more", x.pair(435, 0), -1);
    }

    private static void keepOut() {
        BodySolids x = new BodySolids(0);
        long[][] wrong = {
            {0, 0, 0, 1, 0, 0}, {0, 0, 1, 0, 0, 0}, {1, 0, 0, 1, 0, 0}, {0, 1, 1, 0, 0, 0}, {-20001, 0, 1, 1, 0, 0}, {0, -20001, 1, 1, 0, 0},
            {0, 0, 20001, 1, 0, 0}, {0, 0, 1, 20001, 0, 0}, {0, 0, 1, 1, -1, 0}, {0, 0, 1, 1, 2, 0}, {0, 0, 1, 1, 0, -1}, {0, 0, 1, 1, 0, 20001},
            {FAR, 0, 1, 1, 0, 0}, {DEEP, 0, 1, 1, 0, 0}, {0, FAR, 1, 1, 0, 0}, {0, 0, FAR, 1, 0, 0}, {0, 0, DEEP, 1, 0, 0}, {0, 0, 1, FAR, 0, 0},
            {0, 0, 1, 1, 0, FAR}, {0, 0, 1, 1, 0, DEEP},
        };
        for (long[] w : wrong) {
            Due.argument("keepOut" + Arrays.toString(w), () -> x.keepOut(w[0], w[1], w[2], w[3], (int) w[4], w[5]));
        }
        Due.yes("the greatest", x.keepOut(-20000, -20000, 20000, 20000, 1, 20000));
        for (int i = 1; i < 10; i++) {
            Due.yes("keepOut up to ten", x.keepOut(0, 0, 1, 1, 0, 20000));
        }
        Due.no("an eleventh", x.keepOut(0, 0, 1, 1, 0, 0));
        Due.argument("a wrong eleventh", () -> x.keepOut(0, 0, 0, 1, 0, 0));
        x.body();
        x.box(0, 0, 0, 0, 1, 1, 1);
        x.place(0, 0, 0, 0, 0);
        Due.is("the eleventh does not count", x.breaks(0), -1);
    }

    private static void breaks() {
        BodySolids x = withBodies(9, 2);
        x.box(0, 0, 0, 0, 10, 10, 10);
        x.box(1, 0, 0, 0, 10, 10, 5);
        x.place(1, 0, 0, 0, 0);
        x.place(0, 0, 0, 0, 0);
        x.place(0, 0, 0, 0, 1);
        x.place(0, 100, 0, 0, 0);
        x.place(0, 9, 9, 0, 0);
        Due.is("without keep-outs", x.breaks(0), -1);
        x.keepOut(5, 5, 20, 20, 0, 5);
        Due.is("breaks(0)", x.breaks(0), 1);
        Due.is("breaks(1)", x.breaks(1), 4);
        Due.is("breaks(2)", x.breaks(2), -1);
        Due.is("breaks(-1)", x.breaks(-1), -1);
        Due.is("breaks(least)", x.breaks(Integer.MIN_VALUE), -1);
        x.keepOut(-20, 5, 20, 20, 1, 9);
        Due.is("one on side 1", x.breaks(1), 2);
        Due.is("the next one", x.breaks(2), 4);
        x.keepOut(5, 5, 20, 20, 0, 4);
        Due.is("a lower one", x.breaks(0), 0);
        Due.is("each is told once", x.breaks(3), 4);
        Due.is("and no more", x.breaks(4), -1);
        x.move(2, 0, 0, 0, 0);
        x.box(1, 0, 0, 9, 1, 1, 1);
        Due.is("a moved one", x.breaks(2), 2);
    }

    private static void breaksAtEdges() {
        for (int side = 0; side < 2; side++) {
            BodySolids x = withBodies(20, 3);
            x.box(0, 0, 0, 0, 4, 4, 8);
            x.tube(1, 5, 0, 0, 5, 2, 0);
            x.cylinder(2, 0, 0, 0, 5, 8);
            x.keepOut(100, 100, 110, 110, side, 8);
            x.place(0, 102, 102, 0, side);
            x.place(1, 105, 105, 0, side);
            x.place(2, 105, 105, 0, side);
            Due.is("as high as it may be", x.breaks(0), 1);
            x.keepOut(-10, -10, 0, 0, side, 7);
            x.move(1, -200, 0, 0, side);
            x.move(0, side == 0 ? 0 : 4, -5, 0, side);
            Due.is("beside the rectangle", x.breaks(0), -1);
            x.move(0, side == 0 ? -1 : 3, -5, 0, side);
            Due.is("into the rectangle", x.breaks(0), 0);
            x.move(0, 500, 0, 0, side);
            x.move(2, 3, 4, 0, side);
            Due.is("a cylinder at its corner", x.breaks(0), -1);
            x.move(2, 3, 3, 0, side);
            Due.is("a cylinder over its corner", x.breaks(0), 2);
            x.move(2, 500, 500, 0, side);
            x.keepOut(1000, 1000, 1010, 1010, side, 9);
            x.move(1, 997, 1005, 0, side);
            Due.is("a ball's round at the height", x.breaks(0), -1);
            x.move(1, 998, 1005, 0, side);
            Due.is("a ball's round over the height", x.breaks(0), 1);
        }
    }

    private static void breaksOfFullBodies() {
        BodySolids x = withBodies(0, 3);
        fill(x, 0);
        x.box(1, 0, 0, 0, 1, 1, 1);
        x.keepOut(0, 0, 20, 20, 0, 0);
        x.place(2, 0, 0, 0, 0);
        x.place(0, 0, 0, 0, 0);
        x.place(1, 40, 40, 0, 0);
        x.place(2, 0, 0, 0, 0);
        x.place(0, 40, 40, 0, 0);
        Due.is("twelve solids over the rectangle", x.breaks(0), 1);
        Due.is("fewer beside it, then none, then twelve beside it", x.breaks(1), -1);
        x.keepOut(51, 40, 52, 41, 0, 0);
        Due.is("the last of twelve over the rectangle", x.breaks(1), 4);
    }

    private static void bound() {
        BodySolids x = withBodies(4, 2);
        x.place(0, 10, 20, 0, 0);
        Due.state("of an empty body", () -> x.bound(0, 0));
        Due.index("what -1 of an empty body", () -> x.bound(0, -1));
        Due.index("what 6 of an empty body", () -> x.bound(0, 6));
        Due.index("bound(-1, 0)", () -> x.bound(-1, 0));
        Due.index("bound(1, 0)", () -> x.bound(1, 0));
        x.cylinder(0, 1, 2, 3, 5, 7);
        x.box(0, -9, 0, 1, 1, 1, 1);
        x.tube(0, 2, 0, 30, 2, 2, 20);
        x.corner(0, 0);
        x.corner(40, -3);
        x.corner(1, 1);
        x.prism(0, 0, 1);
        long[] up = {1, 17, 0, 50, 52, 24};
        long[] down = {-30, 17, -28, 19, 52, -4};
        for (int what = 0; what < 6; what++) {
            Due.is("bound " + what, x.bound(0, what), up[what]);
        }
        x.move(0, 10, 20, 0, 1);
        for (int what = 0; what < 6; what++) {
            Due.is("bound on side 1 " + what, x.bound(0, what), down[what]);
        }
        x.cylinder(1, 5000, -5000, 0, 5000, 5000);
        x.place(1, 10000, -10000, 0, 0);
        Due.is("the farthest x", x.bound(1, 3), 20000);
        Due.is("the farthest y", x.bound(1, 1), -20000);
    }

    private static void section() {
        BodySolids x = withBodies(6, 2);
        x.tube(0, 2, 0, 0, 5, 0, 9);
        x.box(0, 1, 2, 0, 3, 4, 10);
        x.cylinder(0, 0, 0, 5, 3, 5);
        x.corner(0, 0);
        x.corner(5, 1);
        x.corner(2, 7);
        x.prism(0, 9, 4);
        x.place(1, 0, 0, 0, 0);
        x.place(0, 100, 200, 0, 0);
        x.place(0, -100, 0, 1, 1);
        long[][] due = {{1, 1, 101, 202, 104, 206}, {1, 2, 97, 197, 103, 203}};
        for (int k = 0; k < 2; k++) {
            for (int what = 0; what < 6; what++) {
                Due.is("section(6, " + k + ", " + what + ")", x.section(6, k, what), due[k][what]);
            }
        }
        Due.is("no third one", x.section(6, 2, 0), -1);
        Due.is("at a cylinder's lower end", x.section(5, 1, 0), -1);
        Due.is("at a box's upper end", x.section(10, 0, 1), 3);
        Due.is("a prism's greatest y", x.section(10, 0, 5), 207);
        Due.is("at a box's lower end", x.section(0, 0, 0), -1);
        Due.is("in the board", x.section(-3, 0, 0), -1);
        Due.is("at the board's lower side", x.section(-6, 0, 0), -1);
        Due.is("below the board: placement", x.section(-7, 0, 0), 2);
        Due.is("below the board: solid", x.section(-7, 0, 1), 1);
        Due.is("below the board: least x", x.section(-7, 0, 2), -106);
        Due.is("below the board: least y", x.section(-7, 0, 3), -4);
        Due.is("below the board: greatest x", x.section(-7, 0, 4), -102);
        Due.is("below the board: greatest y", x.section(-7, 0, 5), -1);
        Due.is("at the lowest prism", x.section(-18, 0, 1), 3);
        Due.is("under all", x.section(-19, 0, 0), -1);
        Due.is("k below 0", x.section(6, -1, 0), -1);
        Due.is("at the least height", x.section(DEEP, 0, 0), -1);
        Due.is("at the greatest height", x.section(FAR, 0, 0), -1);
        Due.index("what 6", () -> x.section(6, 0, 6));
        Due.index("what -1", () -> x.section(6, 0, -1));
        Due.index("what 6 and no such k", () -> x.section(6, -1, 6));
    }

    private static void mass() {
        BodySolids x = withBodies(0, 2);
        x.box(0, 0, 0, 0, 2, 3, 4);
        Due.is("a box", x.mass(0), 226 * 24);
        x.cylinder(0, 0, 0, 0, 3, 5);
        Due.is("and a cylinder", x.mass(0), 226 * 24 + 710 * 45);
        triangle(x, 0, 3);
        Due.is("and half a square", x.mass(0), 226 * 24 + 710 * 45 + 113 * 9);
        x.tube(0, 2, 0, 0, 9, 2, -7);
        Due.is("and a tube", x.mass(0), 226 * 24 + 710 * 45 + 113 * 9 + 710 * 28);
        x.tube(0, 2, 0, 0, 9, 0, 0);
        x.box(0, 0, 0, 0, 2, 3, 4);
        Due.is("and a ball, and the box again", x.mass(0), 226 * 48 + 710 * 45 + 113 * 9 + 710 * 28);
        for (int i = 0; i < 12; i++) {
            x.cylinder(1, 0, 0, 0, 5000, 5000);
        }
        Due.is("the greatest mass", x.mass(1), 12L * 710 * 5000 * 5000 * 5000);
        Due.index("mass(-1)", () -> x.mass(-1));
        Due.index("mass(2)", () -> x.mass(2));
    }
}
