import java.util.ArrayList;
import java.util.Arrays;
import java.util.List;
import java.util.Random;

/**
 * Small random solids against a reckoning of another kind: slice by slice in doubles, polygons by cutting,
 * and points by the document's own definitions. Then the same solids larger, which must meet alike.
 */
final class OracleTest {
    private static final double NEAR = 1e-7;
    private static final int APART = 0;
    private static final int CLASH = 1;
    private static final int TOUCH = 2;
    private static final String[] KINDS = {"box", "cylinder", "prism", "tube"};

    /** A solid as it was told. */
    private static final class Told {
        int kind;
        long x, y, z, w, h, d, r;
        int axis;
        long length;
        long[] px, py;

        boolean tell(BodySolids to, int body, long k) {
            switch (kind) {
                case 0:
                    return to.box(body, x * k, y * k, z * k, w * k, h * k, d * k);
                case 1:
                    return to.cylinder(body, x * k, y * k, z * k, r * k, d * k);
                case 2:
                    for (int i = 0; i < px.length; i++) {
                        to.corner(px[i] * k, py[i] * k);
                    }
                    return to.prism(body, z * k, d * k);
                default:
                    return to.tube(body, r * k, x * k, y * k, z * k, axis, length * k);
            }
        }

        /** Below 0: an inner point; 0: on the border; above: outside. By the document's words alone. */
        int at(double qx, double qy, double qz) {
            switch (kind) {
                case 0:
                    return worst(x - qx, qx - x - w, y - qy, qy - y - h, z - qz, qz - z - d);
                case 1:
                    return worst(Math.hypot(qx - x, qy - y) - r, z - qz, qz - z - d);
                case 2:
                    int found = worst(z - qz, qz - z - d);
                    for (int i = 0; i < px.length; i++) {
                        int j = (i + 1) % px.length;
                        found = Math.max(found, worst((py[j] - py[i]) * (qx - px[i]) - (px[j] - px[i]) * (qy - py[i])));
                    }
                    return found;
                default:
                    double ex = beyond(qx, x, axis == 0 ? x + length : x);
                    double ey = beyond(qy, y, axis == 1 ? y + length : y);
                    double ez = beyond(qz, z, axis == 2 ? z + length : z);
                    return worst(Math.sqrt(ex * ex + ey * ey + ez * ez) - r);
            }
        }

        private static double beyond(double q, double a, double b) {
            return Math.max(0, Math.max(Math.min(a, b) - q, q - Math.max(a, b)));
        }

        private static int worst(double... values) {
            int found = -1;
            for (double value : values) {
                found = Math.max(found, value > NEAR ? 1 : value < -NEAR ? -1 : 0);
            }
            return found;
        }
    }

    /** Where a body is. */
    private record Spot(long x, long y, int turn, int side) {
        double[] onBoard(double px, double py, double pz, long thickness) {
            double qx = side == 1 ? -px : px;
            double qy = py;
            for (int i = 0; i < turn; i++) {
                double keep = qx;
                qx = -qy;
                qy = keep;
            }
            return new double[] {qx + x, qy + y, side == 1 ? -thickness - pz : pz};
        }

        double[] inBody(double px, double py, double pz, long thickness) {
            double qx = px - x;
            double qy = py - y;
            for (int i = turn; i < 4; i++) {
                double keep = qx;
                qx = -qy;
                qy = keep;
            }
            return new double[] {side == 1 ? -qx : qx, qy, side == 1 ? -thickness - pz : pz};
        }
    }

    /** A solid on the board: an outline, and how much wider it is at a height. */
    private static final class Sliced {
        final List<double[]> outline = new ArrayList<>();
        double low = Double.POSITIVE_INFINITY;
        double high = Double.NEGATIVE_INFINITY;
        double disc;
        double ball;

        Sliced(Told s, Spot spot, long thickness) {
            long endX = s.x;
            long endY = s.y;
            long endZ = s.z;
            if (s.kind == 0) {
                add(spot, thickness, s.x, s.y, s.z);
                add(spot, thickness, s.x + s.w, s.y, s.z);
                add(spot, thickness, s.x + s.w, s.y + s.h, s.z + s.d);
                add(spot, thickness, s.x, s.y + s.h, s.z + s.d);
            } else if (s.kind == 1) {
                disc = s.r;
                add(spot, thickness, s.x, s.y, s.z);
                add(spot, thickness, s.x, s.y, s.z + s.d);
            } else if (s.kind == 2) {
                for (int i = 0; i < s.px.length; i++) {
                    add(spot, thickness, s.px[i], s.py[i], i == 0 ? s.z : s.z + s.d);
                }
            } else {
                ball = s.r;
                endX += s.axis == 0 ? s.length : 0;
                endY += s.axis == 1 ? s.length : 0;
                endZ += s.axis == 2 ? s.length : 0;
                add(spot, thickness, s.x, s.y, s.z);
                add(spot, thickness, endX, endY, endZ);
            }
        }

        Sliced(double x0, double y0, double x1, double y1, double low, double high) {
            double[][] four = {{x0, y0}, {x1, y0}, {x1, y1}, {x0, y1}};
            for (double[] place : four) {
                outline.add(place);
            }
            this.low = low;
            this.high = high;
        }

        private void add(Spot spot, long thickness, double x, double y, double z) {
            double[] place = spot.onBoard(x, y, z, thickness);
            outline.add(place);
            low = Math.min(low, place[2]);
            high = Math.max(high, place[2]);
        }

        double width(double z) {
            double away = Math.max(0, Math.max(low - z, z - high));
            return disc + Math.sqrt(Math.max(0, ball * ball - away * away));
        }
    }

    private static double fromSide(double[] p, double[] a, double[] b) {
        double ux = b[0] - a[0];
        double uy = b[1] - a[1];
        double square = ux * ux + uy * uy;
        double part = square == 0 ? 0 : ((p[0] - a[0]) * ux + (p[1] - a[1]) * uy) / square;
        part = Math.max(0, Math.min(1, part));
        return Math.hypot(p[0] - a[0] - part * ux, p[1] - a[1] - part * uy);
    }

    private static double turn(double[] a, double[] b, double[] p) {
        return (b[0] - a[0]) * (p[1] - a[1]) - (b[1] - a[1]) * (p[0] - a[0]);
    }

    private static boolean within(double[] p, List<double[]> outline) {
        boolean left = true;
        boolean right = true;
        for (int i = 0; i < outline.size(); i++) {
            double side = turn(outline.get(i), outline.get((i + 1) % outline.size()), p);
            left &= side > NEAR;
            right &= side < -NEAR;
        }
        return left || right;
    }

    private static boolean cross(double[] a, double[] b, double[] c, double[] d) {
        return turn(a, b, c) * turn(a, b, d) < -NEAR && turn(c, d, a) * turn(c, d, b) < -NEAR;
    }

    private static double distance(List<double[]> a, List<double[]> b) {
        if (within(a.get(0), b) || within(b.get(0), a)) {
            return 0;
        }
        double found = Double.POSITIVE_INFINITY;
        for (int i = 0; i < a.size(); i++) {
            double[] a0 = a.get(i);
            double[] a1 = a.get((i + 1) % a.size());
            for (int j = 0; j < b.size(); j++) {
                double[] b0 = b.get(j);
                double[] b1 = b.get((j + 1) % b.size());
                if (cross(a0, a1, b0, b1)) {
                    return 0;
                }
                found = Math.min(found, Math.min(fromSide(a0, b0, b1), fromSide(b0, a0, a1)));
            }
        }
        return found;
    }

    /** How much of the first outline is left when every side of the other has cut it. */
    private static double commonArea(List<double[]> a, List<double[]> b) {
        List<double[]> left = a;
        double way = turn(b.get(0), b.get(1), b.get(2)) > 0 ? 1 : -1;
        for (int i = 0; i < b.size(); i++) {
            List<double[]> cut = new ArrayList<>();
            for (int j = 0; j < left.size(); j++) {
                double[] p = left.get(j);
                double[] q = left.get((j + 1) % left.size());
                double atP = way * turn(b.get(i), b.get((i + 1) % b.size()), p);
                double atQ = way * turn(b.get(i), b.get((i + 1) % b.size()), q);
                if (atP >= 0) {
                    cut.add(p);
                }
                if (atP > 0 && atQ < 0 || atP < 0 && atQ > 0) {
                    double part = atP / (atP - atQ);
                    cut.add(new double[] {p[0] + part * (q[0] - p[0]), p[1] + part * (q[1] - p[1])});
                }
            }
            left = cut;
        }
        double area = 0;
        for (int i = 1; i + 1 < left.size(); i++) {
            area += turn(left.get(0), left.get(i), left.get(i + 1)) / 2;
        }
        return Math.abs(area);
    }

    private static int meeting(Sliced a, Sliced b) {
        double low = Math.max(a.low - a.ball, b.low - b.ball);
        double high = Math.min(a.high + a.ball, b.high + b.ball);
        if (low > high) {
            return APART;
        }
        double away = distance(a.outline, b.outline);
        double widest = widest(a, b, low, high);
        if (away > widest + NEAR) {
            return APART;
        }
        if (low == high || away > widest - NEAR && widest > NEAR) {
            return TOUCH;
        }
        if (a.disc + a.ball + b.disc + b.ball > 0) {
            return CLASH;
        }
        return commonArea(a.outline, b.outline) > NEAR ? CLASH : TOUCH;
    }

    /** The widths rise and then fall with the height, so thirds close in on the greatest. */
    private static double widest(Sliced a, Sliced b, double low, double high) {
        double best = Math.max(a.width(low) + b.width(low), a.width(high) + b.width(high));
        double from = low;
        double to = high;
        for (int i = 0; i < 120; i++) {
            double one = from + (to - from) / 3;
            double two = to - (to - from) / 3;
            double atOne = a.width(one) + b.width(one);
            double atTwo = a.width(two) + b.width(two);
            best = Math.max(best, Math.max(atOne, atTwo));
            if (atOne < atTwo) {
                from = one;
            } else {
                to = two;
            }
        }
        return best;
    }

    private static Told random(Random dice, int kind) {
        Told s = new Told();
        s.kind = kind;
        s.x = dice.nextInt(9) - 4;
        s.y = dice.nextInt(9) - 4;
        s.z = dice.nextInt(8);
        s.w = 1 + dice.nextInt(6);
        s.h = 1 + dice.nextInt(6);
        s.d = 1 + dice.nextInt(6);
        s.r = 1 + dice.nextInt(5);
        if (kind == 3) {
            s.axis = dice.nextInt(3);
            s.length = dice.nextInt(13) - 6;
            s.z = s.r + dice.nextInt(8);
            s.length = s.axis == 2 ? Math.max(s.length, s.r - s.z) : s.length;
        }
        if (kind == 2) {
            polygon(dice, s, 6);
        }
        return s;
    }

    /** The outermost of some random places, to the left around them. */
    private static void polygon(Random dice, Told s, int reach) {
        int corners;
        do {
            long[] x = new long[11];
            long[] y = new long[11];
            for (int i = 0; i < x.length; i++) {
                x[i] = dice.nextInt(2 * reach + 1) - reach;
                y[i] = dice.nextInt(2 * reach + 1) - reach;
            }
            s.px = new long[x.length];
            s.py = new long[x.length];
            corners = wrap(x, y, 3 + dice.nextInt(9), s);
        } while (corners < 3 || corners > 8);
        s.px = Arrays.copyOf(s.px, corners);
        s.py = Arrays.copyOf(s.py, corners);
    }

    private static int wrap(long[] x, long[] y, int n, Told s) {
        int start = 0;
        for (int i = 1; i < n; i++) {
            start = x[i] < x[start] || x[i] == x[start] && y[i] < y[start] ? i : start;
        }
        int corners = 0;
        int here = start;
        do {
            s.px[corners] = x[here];
            s.py[corners] = y[here];
            corners++;
            int next = here;
            for (int i = 0; i < n; i++) {
                long side = (x[next] - x[here]) * (y[i] - y[here]) - (y[next] - y[here]) * (x[i] - x[here]);
                long far = square(x[i] - x[here], y[i] - y[here]) - square(x[next] - x[here], y[next] - y[here]);
                next = side < 0 || side == 0 && far > 0 ? i : next;
            }
            here = next;
        } while (corners < n && (x[here] != x[start] || y[here] != y[start]));
        return x[here] != x[start] || y[here] != y[start] ? 0 : corners;
    }

    private static long square(long dx, long dy) {
        return dx * dx + dy * dy;
    }

    private static Spot randomSpot(Random dice) {
        return new Spot(dice.nextInt(21) - 10, dice.nextInt(21) - 10, dice.nextInt(4), dice.nextInt(2));
    }

    private static int asked(Told a, Spot atA, Told b, Spot atB, long thickness, long k) {
        BodySolids x = new BodySolids(thickness * k);
        x.body();
        x.body();
        if (!a.tell(x, 0, k) || !b.tell(x, 1, k)) {
            return -1;
        }
        x.place(0, atA.x * k, atA.y * k, atA.turn, atA.side);
        x.place(1, atB.x * k, atB.y * k, atB.turn, atB.side);
        int found = x.clash(0, 1);
        return x.clash(1, 0) == found ? found : -2;
    }

    public static void main(String[] args) {
        Random dice = new Random(20261115);
        int[][] seen = new int[16][3];
        for (int i = 0; i < 160_000; i++) {
            pairCase(dice, i % 16 / 4, i % 4, seen[i % 16]);
        }
        for (int i = 0; i < 16; i++) {
            Due.yes(KINDS[i / 4] + " and " + KINDS[i % 4] + " were seen apart, clashing and touching often",
                    seen[i][APART] > 1000 && seen[i][CLASH] > 300 && seen[i][TOUCH] > 60);
        }
        int[] large = new int[3];
        for (int i = 0; i < 48_000; i++) {
            largeCase(dice, i % 16 / 4, i % 4, large);
        }
        Due.yes("large ones were seen apart and clashing often", large[APART] > 4000 && large[CLASH] > 4000);
        for (int i = 0; i < 20_000; i++) {
            keepOutCase(dice);
        }
        for (int i = 0; i < 1_500; i++) {
            wholeCase(dice);
        }
        Due.end();
    }

    private static void pairCase(Random dice, int kindA, int kindB, int[] seen) {
        Told a = random(dice, kindA);
        Told b = random(dice, kindB);
        Spot atA = randomSpot(dice);
        Spot atB = dice.nextInt(4) == 0 ? randomSpot(dice)
                : new Spot(atA.x + dice.nextInt(13) - 6, atA.y + dice.nextInt(13) - 6, dice.nextInt(4), atA.side);
        long thickness = dice.nextInt(3);
        int due = meeting(new Sliced(a, atA, thickness), new Sliced(b, atB, thickness));
        seen[due]++;
        String what = KINDS[kindA] + " and " + KINDS[kindB];
        int found = asked(a, atA, b, atB, thickness, 1);
        Due.is(what, found, due);
        long k = kindA == 3 || kindB == 3 ? 100 : 380;
        if (thickness == 0) {
            Due.is(what + ", " + k + " times as large", asked(a, atA, b, atB, 0, k), due);
        }
        points(dice, a, atA, b, atB, thickness, found);
    }

    /** As large as the document lets them be. */
    private static Told randomLarge(Random dice, int kind) {
        Told s = new Told();
        s.kind = kind;
        s.w = 1 + dice.nextInt(5000);
        s.h = 1 + dice.nextInt(5000);
        s.d = 1 + dice.nextInt(5000);
        s.x = dice.nextInt(5001) - (kind == 0 ? s.w : 0);
        s.y = dice.nextInt(5001) - (kind == 0 ? s.h : 0);
        s.z = dice.nextInt(5001 - (int) s.d);
        s.r = kind == 3 ? 1 + dice.nextInt(500) : 1 + dice.nextInt(5000);
        if (kind == 3) {
            s.axis = dice.nextInt(3);
            s.z = s.r + dice.nextInt(5001 - (int) s.r);
            long end = s.axis == 2 ? s.r + dice.nextInt(5001 - (int) s.r) : dice.nextInt(10001) - 5000;
            s.length = end - (s.axis == 0 ? s.x : s.axis == 1 ? s.y : s.z);
        }
        if (kind == 2) {
            polygon(dice, s, 5000);
        }
        return s;
    }

    private static void largeCase(Random dice, int kindA, int kindB, int[] seen) {
        Told a = randomLarge(dice, kindA);
        Told b = randomLarge(dice, kindB);
        Spot atA = new Spot(dice.nextInt(20001) - 10000, dice.nextInt(20001) - 10000, dice.nextInt(4), dice.nextInt(2));
        Spot atB = new Spot(Math.max(-10000, Math.min(10000, atA.x + dice.nextInt(10001) - 5000)),
                Math.max(-10000, Math.min(10000, atA.y + dice.nextInt(10001) - 5000)), dice.nextInt(4), atA.side);
        int due = meeting(new Sliced(a, atA, 0), new Sliced(b, atB, 0));
        seen[due]++;
        Due.is("large " + KINDS[kindA] + " and " + KINDS[kindB], asked(a, atA, b, atB, 0, 1), due);
    }

    private static void points(Random dice, Told a, Spot atA, Told b, Spot atB, long thickness, int found) {
        for (int i = 0; i < 12; i++) {
            double px = (a.kind == 2 ? a.px[0] : a.x) + dice.nextInt(33) / 2.0 - 8;
            double py = (a.kind == 2 ? a.py[0] : a.y) + dice.nextInt(33) / 2.0 - 8;
            double pz = dice.nextInt(25) / 2.0;
            double[] board = atA.onBoard(px, py, pz, thickness);
            double[] other = atB.inBody(board[0], board[1], board[2], thickness);
            int worse = Math.max(a.at(px, py, pz), b.at(other[0], other[1], other[2]));
            if (worse < 0) {
                Due.is("with an inner point in common", found, CLASH);
            } else if (worse == 0) {
                Due.yes("with a point in common", found != APART);
            }
        }
    }

    private static void keepOutCase(Random dice) {
        Told a = random(dice, dice.nextInt(4));
        Spot at = randomSpot(dice);
        long thickness = dice.nextInt(4);
        long x0 = at.x + dice.nextInt(17) - 8;
        long y0 = at.y + dice.nextInt(17) - 8;
        long x1 = x0 + 1 + dice.nextInt(4);
        long y1 = y0 + 1 + dice.nextInt(4);
        int side = dice.nextInt(5) == 0 ? 1 - at.side : at.side;
        long height = dice.nextInt(9);
        double low = side == 0 ? height : -1e6;
        double high = side == 0 ? 1e6 : -thickness - height;
        boolean due = side == at.side
                && meeting(new Sliced(a, at, thickness), new Sliced(x0, y0, x1, y1, low, high)) == CLASH;
        BodySolids x = new BodySolids(thickness);
        x.body();
        a.tell(x, 0, 1);
        x.place(0, at.x, at.y, at.turn, at.side);
        x.keepOut(x0, y0, x1, y1, side, height);
        Due.is("breaks of a " + KINDS[a.kind], x.breaks(0), due ? 0 : -1);
        Due.is("breaks of no more", x.breaks(1), -1);
    }

    /** Many bodies, placements and moves: the pairs, one by one, and what is kept between calls, of which 512 are enough. */
    private static void wholeCase(Random dice) {
        long thickness = dice.nextInt(3);
        BodySolids x = new BodySolids(thickness);
        List<List<Told>> bodies = new ArrayList<>();
        List<Integer> bodyOf = new ArrayList<>();
        List<Spot> spots = new ArrayList<>();
        for (int i = 0; i < 5; i++) {
            x.body();
            bodies.add(new ArrayList<>());
        }
        for (int step = 0; step < 40; step++) {
            int body = dice.nextInt(5);
            Spot spot = new Spot(dice.nextInt(61) - 30, dice.nextInt(61) - 30, dice.nextInt(4), dice.nextInt(2));
            int what = step % 13 == 12 ? 3 : dice.nextInt(3);
            if (what == 0 && bodies.get(body).size() < 12) {
                Told s = random(dice, dice.nextInt(4));
                s.tell(x, body, 1);
                bodies.get(body).add(s);
            } else if (what == 1 && spots.size() < 6) {
                Due.is("place", x.place(body, spot.x, spot.y, spot.turn, spot.side), spots.size());
                spots.add(spot);
                bodyOf.add(body);
            } else if (what == 2 && !spots.isEmpty()) {
                int place = dice.nextInt(spots.size());
                boolean other = !spots.get(place).equals(spot);
                Due.is("move", x.move(place, spot.x, spot.y, spot.turn, spot.side) ? 1 : 0, other ? 1 : 0);
                spots.set(place, spot);
            } else if (what == 3) {
                compareAll(x, bodies, bodyOf, spots, thickness);
                compareSections(x, bodies, bodyOf, spots, thickness, dice.nextInt(30) - 15);
            }
        }
    }

    private static void compareAll(BodySolids x, List<List<Told>> bodies, List<Integer> bodyOf, List<Spot> spots, long thickness) {
        int clashes = 0;
        for (int a = 0; a < spots.size(); a++) {
            for (int b = a + 1; b < spots.size(); b++) {
                boolean clash = false;
                boolean touch = false;
                for (Told s : bodies.get(bodyOf.get(a))) {
                    for (Told t : bodies.get(bodyOf.get(b))) {
                        int found = meeting(new Sliced(s, spots.get(a), thickness), new Sliced(t, spots.get(b), thickness));
                        clash |= found == CLASH;
                        touch |= found == TOUCH;
                    }
                }
                Due.is("clash of two placements", x.clash(a, b), clash ? CLASH : touch ? TOUCH : APART);
                if (clash) {
                    Due.is("pair's lower", x.pair(clashes, 0), a);
                    Due.is("pair's other", x.pair(clashes, 1), b);
                    clashes++;
                }
            }
        }
        Due.is("clashes", x.clashes(), clashes);
        Due.is("no pair more", x.pair(clashes, 0), -1);
    }

    private static void compareSections(BodySolids x, List<List<Told>> bodies, List<Integer> bodyOf, List<Spot> spots, long thickness, long height) {
        int k = 0;
        for (int p = 0; p < spots.size(); p++) {
            List<Told> own = bodies.get(bodyOf.get(p));
            for (int i = 0; i < own.size(); i++) {
                Sliced s = new Sliced(own.get(i), spots.get(p), thickness);
                if (own.get(i).kind != 3 && s.low < height && height < s.high) {
                    double least = Double.POSITIVE_INFINITY;
                    double greatest = Double.NEGATIVE_INFINITY;
                    for (double[] place : s.outline) {
                        least = Math.min(least, place[0] - s.disc);
                        greatest = Math.max(greatest, place[1] + s.disc);
                    }
                    Due.is("section's placement", x.section(height, k, 0), p);
                    Due.is("section's solid", x.section(height, k, 1), i);
                    Due.is("section's least x", x.section(height, k, 2), Math.round(least));
                    Due.is("section's greatest y", x.section(height, k, 5), Math.round(greatest));
                    k++;
                }
            }
        }
        Due.is("no section more", x.section(height, k, 0), -1);
    }
}
