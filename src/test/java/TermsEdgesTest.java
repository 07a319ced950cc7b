import java.util.Arrays;

/** The sentences of 'Terms' that name a boundary: the least and the greatest, the first beyond each, and what comes then. */
final class TermsEdgesTest {
    public static void main(String[] args) {
        bodiesAreAtMostThirty();
        solidsAreAtMostTwelve();
        solidsAreNumberedFromZero();
        placesOfBoxes();
        placesOfCylinders();
        placesOfCorners();
        placesOfCores();
        placesAreHeldAsTold();
        heightsOfUprightSolids();
        heightsOfCores();
        heightsAreHeldAsTold();
        sizes();
        radii();
        placementsAreAtMostThirty();
        placementsLieWithinTenThousand();
        touchingIsPointsInCommonWithoutClash();
        touchingAtAFaceAnEdgeACorner();
        touchingWhereOneMoreIsApartAndOneLessClashes();
        touchingOfPrisms();
        Due.end();
    }

    private static long one(boolean answer) {
        return answer ? 1 : 0;
    }

    /** "BODIES are numbered from 0, at most 30". */
    private static void bodiesAreAtMostThirty() {
        BodySolids x = new BodySolids(0);
        for (int i = 0; i < 30; i++) {
            Due.is("body number", x.body(), i);
        }
        for (int i = 0; i < 30; i++) {
            Due.yes("each of thirty bodies takes a solid", x.box(i, 0, 0, 0, i + 1, 1, 1));
        }
        Due.is("a body behind the thirtieth", x.body(), BodySolids.NONE);
        for (int i = 0; i < 30; i++) {
            Due.is("mass of body " + i, x.mass(i), 226L * (i + 1));
        }
        Due.index("no body has number 30", () -> x.box(30, 0, 0, 0, 1, 1, 1));
        Due.is("the last one can be placed", x.place(29, 0, 0, 0, 0), 0);
        Due.is("as it is", x.bound(0, 3), 30);
    }

    private static boolean add(BodySolids x, int body, int kind) {
        if (kind == 0) {
            return x.box(body, 0, 0, 0, 1, 1, 1);
        }
        if (kind == 1) {
            return x.cylinder(body, 0, 0, 0, 1, 1);
        }
        if (kind == 2) {
            return x.prism(body, 0, 1);
        }
        return x.tube(body, 1, 0, 0, 1, 0, 1);
    }

    private static void add(BodySolids x, int body, int kind, int count) {
        for (int i = 0; i < count; i++) {
            if (kind == 2) {
                x.corner(0, 0);
                x.corner(6, 0);
                x.corner(0, 3);
            }
            add(x, body, kind);
        }
    }

    /** "each made of SOLIDS, at most 12", of whatever kind the twelve are and one more is. */
    private static void solidsAreAtMostTwelve() {
        for (int filled = 0; filled < 4; filled++) {
            for (int more = 0; more < 4; more++) {
                int kind = filled;
                int other = more;
                String what = "kind " + more + " behind twelve of kind " + filled;
                Edges.Setup eleven = x -> {
                    Edges.noCorners(x);
                    add(x, 2, kind, 11);
                    x.corner(0, 0);
                    x.corner(6, 0);
                    x.corner(0, 3);
                };
                Edges.Setup twelve = x -> {
                    Edges.noCorners(x);
                    add(x, 2, kind, 12);
                    x.corner(0, 0);
                    x.corner(6, 0);
                    x.corner(0, 3);
                };
                Edges.taken("a twelfth, " + what, eleven, 1, x -> one(add(x, 2, other)));
                Edges.idle("a thirteenth, " + what, twelve, 0, x -> one(add(x, 2, other)));
            }
        }
    }

    /** "numbered from 0 in it", by all that were taken, tubes too, and by none that was refused. */
    private static void solidsAreNumberedFromZero() {
        BodySolids x = new BodySolids(0);
        x.body();
        for (int i = 0; i < 12; i++) {
            Due.argument("a wrong one between", () -> x.box(0, 0, 0, 0, 0, 1, 1));
            Due.no("corners that make no polygon between", x.prism(0, 0, 1));
            Due.yes("solid " + i, i % 3 == 1 ? x.tube(0, 1, 0, 0, 1, 0, 0) : x.box(0, 10 * i, 0, 0, 1, 1, 2));
        }
        Due.no("a thirteenth", x.box(0, 0, 0, 0, 1, 1, 2));
        x.place(0, 0, 0, 0, 0);
        int[] due = {0, 2, 3, 5, 6, 8, 9, 11};
        for (int k = 0; k < due.length; k++) {
            Due.is("number of the section's solid " + k, x.section(1, k, 1), due[k]);
            Due.is("where it is", x.section(1, k, 2), 10 * due[k]);
        }
        Due.is("no more", x.section(1, due.length, 1), BodySolids.NONE);
    }

    /** "PLACES of a body have coordinates -5,000 .. 5,000 (also ends of boxes". */
    private static void placesOfBoxes() {
        Edges.range("box x", Edges::some, -5000, 4999, 1, (x, v) -> one(x.box(2, v, 0, 0, 1, 1, 1)));
        Edges.range("box y", Edges::some, -5000, 4999, 1, (x, v) -> one(x.box(2, 0, v, 0, 1, 1, 1)));
        Edges.range("box x, 5,000 long", Edges::some, -5000, 0, 1, (x, v) -> one(x.box(2, v, 0, 0, 5000, 1, 1)));
        Edges.range("box y, 5,000 long", Edges::some, -5000, 0, 1, (x, v) -> one(x.box(2, 0, v, 0, 1, 5000, 1)));
        Edges.range("box w from 1 on", Edges::some, 1, 4999, 1, (x, v) -> one(x.box(2, 1, 0, 0, v, 1, 1)));
        Edges.range("box h from 1 on", Edges::some, 1, 4999, 1, (x, v) -> one(x.box(2, 0, 1, 0, 1, v, 1)));
        Edges.range("box w from 4,999 on", Edges::some, 1, 1, 1, (x, v) -> one(x.box(2, 4999, 0, 0, v, 1, 1)));
        Edges.range("box h from 4,999 on", Edges::some, 1, 1, 1, (x, v) -> one(x.box(2, 0, 4999, 0, 1, v, 1)));
        Edges.noArgument("box that ends where it may not begin", Edges::some, x -> one(x.box(2, -5001, 0, 0, 5000, 1, 1)));
    }

    /** ".. middles)": a cylinder itself may reach farther. */
    private static void placesOfCylinders() {
        for (long r : new long[] {1, 5000}) {
            Edges.range("cylinder x", Edges::some, -5000, 5000, 1, (x, v) -> one(x.cylinder(2, v, 0, 0, r, 1)));
            Edges.range("cylinder y", Edges::some, -5000, 5000, 1, (x, v) -> one(x.cylinder(2, 0, v, 0, r, 1)));
        }
    }

    /** ".. corners". */
    private static void placesOfCorners() {
        Edges.range("corner x", Edges::some, -5000, 5000, 1, (x, v) -> one(x.corner(v, 1)));
        Edges.range("corner y", Edges::some, -5000, 5000, 1, (x, v) -> one(x.corner(1, v)));
        BodySolids x = new BodySolids(0);
        x.body();
        long[][] farthest = {{-5000, -5000}, {5000, -5000}, {5000, 5000}, {-5000, 5000}};
        for (long[] c : farthest) {
            Due.yes("corner" + Arrays.toString(c), x.corner(c[0], c[1]));
            Due.argument("a corner beyond it", () -> x.corner(c[0] + c[0] / 5000, c[1]));
            Due.argument("another beyond it", () -> x.corner(c[0], c[1] + c[1] / 5000));
        }
        Due.yes("prism over the four", x.prism(0, 0, 1));
        Due.is("its mass", x.mass(0), 226L * 10000 * 10000);
    }

    /** ".. ends of .. CORES": both ends, in both directions along each axis; the tube itself may reach farther. */
    private static void placesOfCores() {
        for (int axis = 0; axis < 3; axis++) {
            int along = axis;
            Edges.range("ball x, axis " + axis, Edges::some, -5000, 5000, 1, (x, v) -> one(x.tube(2, 500, v, 0, 900, along, 0)));
            Edges.range("ball y, axis " + axis, Edges::some, -5000, 5000, 1, (x, v) -> one(x.tube(2, 500, 0, v, 900, along, 0)));
        }
        Edges.range("core x, 5 on", Edges::some, -5000, 4995, 1, (x, v) -> one(x.tube(2, 7, v, 0, 9, 0, 5)));
        Edges.range("core x, 5 back", Edges::some, -4995, 5000, 1, (x, v) -> one(x.tube(2, 7, v, 0, 9, 0, -5)));
        Edges.range("core y, 5 on", Edges::some, -5000, 4995, 1, (x, v) -> one(x.tube(2, 7, 0, v, 9, 1, 5)));
        Edges.range("core y, 5 back", Edges::some, -4995, 5000, 1, (x, v) -> one(x.tube(2, 7, 0, v, 9, 1, -5)));
        Edges.range("core x, along y", Edges::some, -5000, 5000, 1, (x, v) -> one(x.tube(2, 7, v, 0, 9, 1, 5)));
        Edges.range("core y, along x", Edges::some, -5000, 5000, 1, (x, v) -> one(x.tube(2, 7, 0, v, 9, 0, 5)));
        Edges.range("core x, upright", Edges::some, -5000, 5000, 1, (x, v) -> one(x.tube(2, 7, v, 0, 9, 2, 5)));
        Edges.range("core y, upright", Edges::some, -5000, 5000, 1, (x, v) -> one(x.tube(2, 7, 0, v, 9, 2, -2)));
    }

    private static void bounds(String what, Edges.Setup setup, long... due) {
        BodySolids x = new BodySolids(1000);
        x.body();
        setup.make(x);
        Due.is(what + " is placed", x.place(0, 0, 0, 0, 0), 0);
        for (int i = 0; i < 6; i++) {
            Due.is(what + " bound " + i, x.bound(0, i), due[i]);
        }
    }

    /** What is taken at the farthest places lies there. */
    private static void placesAreHeldAsTold() {
        bounds("box at the least", x -> x.box(0, -5000, -5000, 0, 1, 1, 1), -5000, -5000, 0, -4999, -4999, 1);
        bounds("box at the greatest", x -> x.box(0, 4999, 4999, 4999, 1, 1, 1), 4999, 4999, 4999, 5000, 5000, 5000);
        bounds("greatest box", x -> x.box(0, 0, 0, 0, 5000, 5000, 5000), 0, 0, 0, 5000, 5000, 5000);
        bounds("greatest cylinder", x -> x.cylinder(0, 5000, -5000, 0, 5000, 5000), 0, -10000, 0, 10000, 0, 5000);
        bounds("ball at the least", x -> x.tube(0, 500, -5000, -5000, 500, 0, 0), -5500, -5500, 0, -4500, -4500, 1000);
        bounds("ball at the greatest", x -> x.tube(0, 500, 5000, 5000, 5000, 0, 0), 4500, 4500, 4500, 5500, 5500, 5500);
        bounds("longest tube", x -> x.tube(0, 1, -5000, 0, 1, 0, 10000), -5001, -1, 0, 5001, 1, 2);
        bounds("longest tube back", x -> x.tube(0, 1, 0, 5000, 1, 1, -10000), -1, -5001, 0, 1, 5001, 2);
    }

    /** "heights are 0 .. 5,000 (also the upper ends of solids". */
    private static void heightsOfUprightSolids() {
        Edges.range("box z", Edges::some, 0, 4999, 1, (x, v) -> one(x.box(2, 0, 0, v, 1, 1, 1)));
        Edges.range("cylinder z", Edges::some, 0, 4999, 1, (x, v) -> one(x.cylinder(2, 0, 0, v, 1, 1)));
        Edges.range("prism z", Edges::some, 0, 4999, 1, (x, v) -> one(x.prism(2, v, 1)));
        Edges.range("box z, 5,000 high", Edges::some, 0, 0, 1, (x, v) -> one(x.box(2, 0, 0, v, 1, 1, 5000)));
        Edges.range("cylinder z, 5,000 high", Edges::some, 0, 0, 1, (x, v) -> one(x.cylinder(2, 0, 0, v, 1, 5000)));
        Edges.range("prism z, 5,000 high", Edges::some, 0, 0, 1, (x, v) -> one(x.prism(2, v, 5000)));
        Edges.range("box d from 1 on", Edges::some, 1, 4999, 1, (x, v) -> one(x.box(2, 0, 0, 1, 1, 1, v)));
        Edges.range("cylinder d from 1 on", Edges::some, 1, 4999, 1, (x, v) -> one(x.cylinder(2, 0, 0, 1, 1, v)));
        Edges.range("prism d from 1 on", Edges::some, 1, 4999, 1, (x, v) -> one(x.prism(2, 1, v)));
        Edges.range("box d from 4,999 on", Edges::some, 1, 1, 1, (x, v) -> one(x.box(2, 0, 0, 4999, 1, 1, v)));
    }

    /** "a CORE's r .. 5,000)": the core's both ends, not the tube's own. */
    private static void heightsOfCores() {
        for (long r : new long[] {1, 3, 500}) {
            Edges.range("core z along x", Edges::some, r, 5000, 1, (x, v) -> one(x.tube(2, r, 0, 0, v, 0, 5)));
            Edges.range("core z along y", Edges::some, r, 5000, 1, (x, v) -> one(x.tube(2, r, 0, 0, v, 1, -5)));
            Edges.range("core z upright", Edges::some, r, 4995, 1, (x, v) -> one(x.tube(2, r, 0, 0, v, 2, 5)));
            Edges.range("core z upright, down", Edges::some, r + 5, 5000, 1, (x, v) -> one(x.tube(2, r, 0, 0, v, 2, -5)));
            Edges.range("ball z", Edges::some, r, 5000, 1, (x, v) -> one(x.tube(2, r, 0, 0, v, 2, 0)));
            Edges.range("length up", Edges::some, 0, 5000 - r, 1, (x, v) -> one(x.tube(2, r, 0, 0, r, 2, v)));
            Edges.range("length down", Edges::some, r - 5000, 0, 1, (x, v) -> one(x.tube(2, r, 0, 0, 5000, 2, v)));
        }
        Edges.range("radius of a core 7 high", Edges::some, 1, 7, 1, (x, v) -> one(x.tube(2, v, 0, 0, 7, 0, 5)));
        Edges.range("radius of a core down to 7", Edges::some, 1, 7, 1, (x, v) -> one(x.tube(2, v, 0, 0, 20, 2, -13)));
    }

    private static void heightsAreHeldAsTold() {
        bounds("highest box", x -> x.box(0, 0, 0, 4999, 1, 1, 1), 0, 0, 4999, 1, 1, 5000);
        bounds("whole prism", x -> {
            x.corner(0, 0);
            x.corner(1, 0);
            x.corner(0, 1);
            x.prism(0, 0, 5000);
        }, 0, 0, 0, 1, 1, 5000);
        bounds("whole upright tube", x -> x.tube(0, 1, 0, 0, 1, 2, 4999), -1, -1, 0, 1, 1, 5001);
        bounds("the same downwards", x -> x.tube(0, 1, 0, 0, 5000, 2, -4999), -1, -1, 0, 1, 1, 5001);
    }

    /** "w, h, d are 1 .. 5,000". */
    private static void sizes() {
        Edges.range("box w", Edges::some, 1, 5000, 1, (x, v) -> one(x.box(2, -5000, 0, 0, v, 1, 1)));
        Edges.range("box h", Edges::some, 1, 5000, 1, (x, v) -> one(x.box(2, 0, -5000, 0, 1, v, 1)));
        Edges.range("box d", Edges::some, 1, 5000, 1, (x, v) -> one(x.box(2, 0, 0, 0, 1, 1, v)));
        Edges.range("cylinder d", Edges::some, 1, 5000, 1, (x, v) -> one(x.cylinder(2, 0, 0, 0, 1, v)));
        Edges.range("prism d", Edges::some, 1, 5000, 1, (x, v) -> one(x.prism(2, 0, v)));
        Edges.noArgument("box 10,000 wide", Edges::some, x -> one(x.box(2, -5000, 0, 0, 10000, 1, 1)));
        Edges.noArgument("box of width -1", Edges::some, x -> one(x.box(2, 0, 0, 0, -1, 1, 1)));
        Edges.noArgument("box of depth -1", Edges::some, x -> one(x.box(2, 0, 0, 2, 1, 1, -1)));
    }

    /** "r of a cylinder 1 .. 5,000, of a tube 1 .. 500." */
    private static void radii() {
        Edges.range("cylinder r", Edges::some, 1, 5000, 1, (x, v) -> one(x.cylinder(2, 0, 0, 0, v, 1)));
        Edges.range("cylinder r at the farthest place", Edges::some, 1, 5000, 1, (x, v) -> one(x.cylinder(2, 5000, 5000, 0, v, 1)));
        for (int axis = 0; axis < 3; axis++) {
            int along = axis;
            Edges.range("tube r, axis " + axis, Edges::some, 1, 500, 1, (x, v) -> one(x.tube(2, v, 0, 0, 2500, along, 9)));
            Edges.range("ball r, axis " + axis, Edges::some, 1, 500, 1, (x, v) -> one(x.tube(2, v, 5000, -5000, 5000, along, 0)));
        }
    }

    /** "PLACEMENTS, numbered from 0, at most 30". */
    private static void placementsAreAtMostThirty() {
        BodySolids x = new BodySolids(0);
        x.body();
        x.box(0, 0, 0, 0, 1, 1, 2);
        for (int i = 0; i < 30; i++) {
            Due.is("placement number", x.place(0, 10 * i, 0, 0, 0), i);
        }
        Due.is("a placement behind the thirtieth", x.place(0, -500, 0, 0, 0), BodySolids.NONE);
        for (int i = 0; i < 30; i++) {
            Due.is("placement " + i, x.bound(i, 0), 10 * i);
        }
        Due.index("no placement has number 30", () -> x.bound(30, 0));
        Due.is("it is in no section", x.section(1, 30, 0), BodySolids.NONE);
        Due.is("the last one is", x.section(1, 29, 0), 29);
    }

    /** "put a body at x, y (-10,000 .. 10,000)". */
    private static void placementsLieWithinTenThousand() {
        Edges.range("place x", Edges::some, -10000, 10000, 4, (x, v) -> x.place(0, v, 0, 0, 0));
        Edges.range("place y", Edges::some, -10000, 10000, 4, (x, v) -> x.place(0, 0, v, 0, 0));
        Edges.range("move x", Edges::some, -10000, 10000, 1, (x, v) -> one(x.move(0, v, 0, 0, 0)));
        Edges.range("move y", Edges::some, -10000, 10000, 1, (x, v) -> one(x.move(0, 0, v, 0, 0)));
        BodySolids x = Edges.made(Edges::some);
        Due.is("at the least", x.place(0, -10000, -10000, 0, 0), 4);
        Due.is("at the greatest", x.place(0, 10000, 10000, 0, 0), 5);
        Due.is("least x", x.bound(4, 0), -9999);
        Due.is("least y", x.bound(4, 1), -10002);
        Due.is("greatest x", x.bound(5, 3), 10012);
        Due.is("greatest y", x.bound(5, 4), 10006);
    }

    /** "they TOUCH when they do not clash, but some solids have points in common." */
    private static void touchingIsPointsInCommonWithoutClash() {
        BodySolids x = new BodySolids(0);
        x.body();
        x.body();
        x.box(0, 0, 0, 0, 4, 4, 4);
        x.place(0, 0, 0, 0, 0);
        x.place(1, 0, 0, 0, 0);
        Due.is("nothing", x.clash(0, 1), 0);
        x.box(1, 5, 0, 0, 1, 1, 1);
        Due.is("one that is apart", x.clash(0, 1), 0);
        x.box(1, 0, 4, 0, 1, 1, 1);
        Due.is("and one that has points in common", x.clash(0, 1), 2);
        x.box(1, 0, 0, 5, 1, 1, 1);
        Due.is("and another one that is apart", x.clash(0, 1), 2);
        Due.is("which are no clash", x.clashes(), 0);
        x.box(1, 3, 3, 3, 5, 5, 5);
        Due.is("and one that has inner points in common", x.clash(0, 1), 1);
        x.box(1, 0, -1, 0, 1, 1, 1);
        Due.is("and one that has points in common", x.clash(1, 0), 1);
        Due.is("which are one clash", x.clashes(), 1);
    }

    private static void touchingAtAFaceAnEdgeACorner() {
        for (int mask = 0; mask < 27; mask++) {
            long[] where = {4 * (mask % 3 - 1), 4 * (mask / 3 % 3 - 1), 4 * (mask / 9)};
            boolean same = where[0] == 0 && where[1] == 0 && where[2] == 4;
            BodySolids x = new BodySolids(0);
            x.body();
            x.body();
            x.box(0, 0, 0, 4, 4, 4, 4);
            x.box(1, where[0], where[1], where[2], 4, 4, 4);
            x.place(0, 7, 7, 1, 0);
            x.place(1, 7, 7, 1, 0);
            Due.is("boxes at " + Arrays.toString(where), x.clash(0, 1), same ? 1 : 2);
        }
    }

    private static void near(String what, Edges.Setup setup, long far) {
        for (long away = far - 1; away <= far + 1; away++) {
            BodySolids x = new BodySolids(0);
            x.body();
            x.body();
            setup.make(x);
            x.place(0, 0, 0, 0, 0);
            x.place(1, away, 0, 0, 0);
            Due.is(what + " at " + away, x.clash(0, 1), away < far ? 1 : away == far ? 2 : 0);
            x.move(0, 0, 0, 2, 1);
            x.move(1, away, 0, 2, 1);
            Due.is(what + " mirrored and turned, at " + away, x.clash(1, 0), away < far ? 1 : away == far ? 2 : 0);
        }
    }

    /** The greatest solids as well as the least: a rounded root or a small number would not do. */
    private static void touchingWhereOneMoreIsApartAndOneLessClashes() {
        near("least boxes", x -> {
            x.box(0, 0, 0, 0, 1, 1, 1);
            x.box(1, 0, 0, 0, 1, 1, 1);
        }, 1);
        near("greatest boxes", x -> {
            x.box(0, -5000, 0, 0, 5000, 5000, 5000);
            x.box(1, -5000, 0, 0, 5000, 5000, 5000);
        }, 5000);
        near("greatest cylinders, aslant", x -> {
            x.cylinder(0, 0, 0, 0, 5000, 5000);
            x.cylinder(1, 0, 2800, 0, 5000, 5000);
        }, 9600);
        near("greatest cylinder and a box's corner", x -> {
            x.cylinder(0, 0, 0, 0, 5000, 5000);
            x.box(1, 0, 3000, 0, 5000, 1, 1);
        }, 4000);
        near("balls, aslant in space", x -> {
            x.tube(0, 500, 0, 0, 500, 0, 0);
            x.tube(1, 500, 0, 480, 1100, 1, 0);
        }, 640);
        near("tube's end and a cylinder's edge", x -> {
            x.tube(0, 500, 0, 0, 500, 0, 0);
            x.cylinder(1, 0, 0, 900, 5000, 4100);
        }, 5300);
    }

    private static void prism(BodySolids x, int body, long z, long... places) {
        for (int i = 0; i + 1 < places.length; i += 2) {
            x.corner(places[i], places[i + 1]);
        }
        Due.yes("prism", x.prism(body, z, 5000 - z));
    }

    /** The same of prisms with every kind: at a corner, and along a slope of 3 to 4. */
    private static void touchingOfPrisms() {
        near("prism's slope and a prism's corner", x -> {
            prism(x, 0, 0, -5000, -5000, 0, -5000, 5000, 5000, -5000, 5000);
            prism(x, 1, 4999, 0, 0, 5000, -1, 5000, 1);
        }, 2500);
        near("prism's corner and a box", x -> {
            x.box(0, -5000, -5000, 0, 5000, 5000, 1);
            prism(x, 1, 0, 3000, -5000, 5000, 0, 3000, 1, 1, 0);
        }, -1);
        near("prism's slope and a box's corner", x -> {
            prism(x, 0, 0, -4000, 3000, -4000, -3000, 4000, -3000);
            x.box(1, 0, 0, 0, 5000, 5000, 1);
        }, 0);
        near("prism's slope and the greatest cylinder", x -> {
            prism(x, 0, 0, -4000, 3000, -4000, -3000, 4000, -3000);
            x.cylinder(1, 0, 4000, 0, 5000, 1);
        }, 3000);
        near("prism's corner and the greatest cylinder", x -> {
            prism(x, 0, 0, -4000, 3000, -4000, -3000, 0, 0);
            x.cylinder(1, 0, 3000, 0, 5000, 1);
        }, 4000);
        near("prism's slope and a ball under it", x -> {
            prism(x, 0, 900, -4000, 3000, -4000, -3000, 4000, -3000);
            x.tube(1, 500, 0, 240, 500, 0, 0);
        }, 180);
        near("prism's corner and a tube under it", x -> {
            x.tube(0, 500, 0, -100, 500, 1, 200);
            prism(x, 1, 900, 0, 0, 4000, -3000, 4000, 3000);
        }, 300);
    }
}
