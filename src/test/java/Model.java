import java.math.BigDecimal;
import java.math.MathContext;
import java.util.ArrayList;
import java.util.Collections;
import java.util.HashMap;
import java.util.List;
import java.util.Map;

/**
 * The document once more, without a thought for speed, and by other means than the class: two outlines meet as their
 * difference (the hull of all places of the one less all of the other) lies to 0, 0, and roots are taken to eighty digits.
 */
final class Model {
    private static final MathContext DIGITS = new MathContext(80);
    // Roots of such whole numbers are either equal or differ by far more.
    private static final BigDecimal NOTHING = new BigDecimal("1e-50");

    /** An outline between two heights, and all that is near it: 'flat' in the level, 'round' in space. */
    private record Solid(int kind, long[][] outline, long low, long high, long flat, long round, long mass) {
        long least(int axis) {
            long found = Long.MAX_VALUE;
            for (long[] place : outline) {
                found = Math.min(found, axis == 2 ? low : place[axis]);
            }
            return found - round - (axis == 2 ? 0 : flat);
        }

        long greatest(int axis) {
            long found = Long.MIN_VALUE;
            for (long[] place : outline) {
                found = Math.max(found, axis == 2 ? high : place[axis]);
            }
            return found + round + (axis == 2 ? 0 : flat);
        }
    }

    private record Spot(int body, long x, long y, int turn, int side) {
    }

    private record KeepOut(Solid space, int side) {
    }

    /** Bodies only grow, so a number and how many solids there are tell what a body is. */
    private record Two(Spot a, int solidsOfA, Spot b, int solidsOfB) {
    }

    private final long thickness;
    private final List<List<Solid>> bodies = new ArrayList<>();
    private final List<Spot> spots = new ArrayList<>();
    private final List<KeepOut> keepOuts = new ArrayList<>();
    private final List<long[]> corners = new ArrayList<>();
    private final Map<Two, Integer> known = new HashMap<>();

    Model(long thickness) {
        this.thickness = thickness < 0 ? 0 : thickness > 1000 ? 1000 : thickness;
    }

    int body() {
        if (bodies.size() == 30) {
            return -1;
        }
        bodies.add(new ArrayList<>());
        return bodies.size() - 1;
    }

    boolean box(int body, long x, long y, long z, long w, long h, long d) {
        there(body, bodies.size());
        so(in(x, -5000, 5000) && in(y, -5000, 5000) && in(z, 0, 5000) && in(w, 1, 5000) && in(h, 1, 5000) && in(d, 1, 5000));
        so(x + w <= 5000 && y + h <= 5000 && z + d <= 5000);
        long[][] outline = {{x, y}, {x + w, y}, {x + w, y + h}, {x, y + h}};
        return add(body, new Solid(0, outline, z, z + d, 0, 0, 226 * w * h * d));
    }

    boolean cylinder(int body, long x, long y, long z, long r, long d) {
        there(body, bodies.size());
        so(in(x, -5000, 5000) && in(y, -5000, 5000) && in(z, 0, 5000) && in(r, 1, 5000) && in(d, 1, 5000) && z + d <= 5000);
        return add(body, new Solid(1, new long[][] {{x, y}}, z, z + d, r, 0, 2 * 355 * r * r * d));
    }

    boolean corner(long x, long y) {
        so(in(x, -5000, 5000) && in(y, -5000, 5000));
        return corners.size() < 8 && corners.add(new long[] {x, y});
    }

    boolean prism(int body, long z, long d) {
        there(body, bodies.size());
        so(in(z, 0, 5000) && in(d, 1, 5000) && z + d <= 5000);
        long[][] outline = corners.toArray(new long[0][]);
        if (!isPolygon(outline)) {
            corners.clear();
            return false;
        }
        long twice = 0;
        for (int i = 0; i < outline.length; i++) {
            twice += cross(outline[i], outline[(i + 1) % outline.length]);
        }
        boolean added = add(body, new Solid(2, outline, z, z + d, 0, 0, 113 * twice * d));
        if (added) {
            corners.clear();
        }
        return added;
    }

    boolean tube(int body, long r, long x, long y, long z, int axis, long length) {
        there(body, bodies.size());
        so(in(r, 1, 500) && in(axis, 0, 2) && in(length, -10000, 10000) && in(x, -5000, 5000) && in(y, -5000, 5000) && in(z, r, 5000));
        long[] end = {x, y, z};
        end[axis] += length;
        so(in(end[0], -5000, 5000) && in(end[1], -5000, 5000) && in(end[2], r, 5000));
        long[][] outline = {{x, y}, {end[0], end[1]}};
        long mass = 2 * 355 * r * r * Math.abs(length);
        return add(body, new Solid(3, outline, Math.min(z, end[2]), Math.max(z, end[2]), 0, r, mass));
    }

    int join(int a, int b) {
        there(a, bodies.size());
        there(b, bodies.size());
        if (bodies.size() == 30 || bodies.get(a).size() + bodies.get(b).size() > 12) {
            return -1;
        }
        List<Solid> both = new ArrayList<>(bodies.get(a));
        both.addAll(bodies.get(b));
        bodies.add(both);
        return bodies.size() - 1;
    }

    int place(int body, long x, long y, int turn, int side) {
        there(body, bodies.size());
        so(in(x, -10000, 10000) && in(y, -10000, 10000) && in(turn, 0, 3) && in(side, 0, 1));
        if (spots.size() == 30) {
            return -1;
        }
        spots.add(new Spot(body, x, y, turn, side));
        return spots.size() - 1;
    }

    boolean move(int place, long x, long y, int turn, int side) {
        there(place, spots.size());
        so(in(x, -10000, 10000) && in(y, -10000, 10000) && in(turn, 0, 3) && in(side, 0, 1));
        Spot then = new Spot(spots.get(place).body, x, y, turn, side);
        return !spots.set(place, then).equals(then);
    }

    int clash(int a, int b) {
        there(a, spots.size());
        there(b, spots.size());
        return a == b ? 0 : meeting(spots.get(a), spots.get(b));
    }

    int clashes() {
        return pairs().size();
    }

    int pair(int k, int which) {
        there(which, 2);
        List<int[]> all = pairs();
        return in(k, 0, all.size() - 1) ? all.get(k)[which] : -1;
    }

    boolean keepOut(long x0, long y0, long x1, long y1, int side, long height) {
        so(in(x0, -20000, 20000) && in(y0, -20000, 20000) && in(x1, -20000, 20000) && in(y1, -20000, 20000));
        so(x0 < x1 && y0 < y1 && in(side, 0, 1) && in(height, 0, 20000));
        if (keepOuts.size() == 10) {
            return false;
        }
        long[][] outline = {{x0, y0}, {x1, y0}, {x1, y1}, {x0, y1}};
        long low = side == 0 ? height : -1_000_000;
        long high = side == 0 ? 1_000_000 : -thickness - height;
        return keepOuts.add(new KeepOut(new Solid(0, outline, low, high, 0, 0, 0), side));
    }

    int breaks(int k) {
        List<Integer> all = new ArrayList<>();
        for (int i = 0; i < spots.size(); i++) {
            if (breaksOne(spots.get(i))) {
                all.add(i);
            }
        }
        return in(k, 0, all.size() - 1) ? all.get(k) : -1;
    }

    long bound(int place, int what) {
        there(place, spots.size());
        there(what, 6);
        List<Solid> laid = laid(spots.get(place));
        if (laid.isEmpty()) {
            throw new IllegalStateException();
        }
        return what < 3 ? laid.stream().mapToLong(s -> s.least(what)).min().getAsLong()
                : laid.stream().mapToLong(s -> s.greatest(what - 3)).max().getAsLong();
    }

    long section(long height, int k, int what) {
        there(what, 6);
        List<long[]> all = new ArrayList<>();
        for (int i = 0; i < spots.size(); i++) {
            List<Solid> laid = laid(spots.get(i));
            for (int j = 0; j < laid.size(); j++) {
                Solid s = laid.get(j);
                if (s.kind != 3 && s.low < height && height < s.high) {
                    all.add(new long[] {i, j, s.least(0), s.least(1), s.greatest(0), s.greatest(1)});
                }
            }
        }
        return in(k, 0, all.size() - 1) ? all.get(k)[what] : -1;
    }

    long mass(int body) {
        there(body, bodies.size());
        return bodies.get(body).stream().mapToLong(Solid::mass).sum();
    }

    private static void there(int number, int count) {
        if (!in(number, 0, count - 1)) {
            throw new IndexOutOfBoundsException();
        }
    }

    private static void so(boolean asSaid) {
        if (!asSaid) {
            throw new IllegalArgumentException();
        }
    }

    private static boolean in(long value, long least, long greatest) {
        return least <= value && value <= greatest;
    }

    private boolean add(int body, Solid solid) {
        return bodies.get(body).size() < 12 && bodies.get(body).add(solid);
    }

    private static boolean isPolygon(long[][] outline) {
        boolean found = outline.length >= 3;
        for (int i = 0; i < outline.length; i++) {
            int next = (i + 1) % outline.length;
            for (int j = 0; j < outline.length; j++) {
                found &= j == i || j == next || cross(less(outline[next], outline[i]), less(outline[j], outline[i])) > 0;
            }
        }
        return found;
    }

    private static long[] less(long[] p, long[] q) {
        return new long[] {p[0] - q[0], p[1] - q[1]};
    }

    private static long cross(long[] p, long[] q) {
        return p[0] * q[1] - p[1] * q[0];
    }

    private static long dot(long[] p, long[] q) {
        return p[0] * q[0] + p[1] * q[1];
    }

    private List<Solid> laid(Spot spot) {
        List<Solid> found = new ArrayList<>();
        for (Solid s : bodies.get(spot.body)) {
            long[][] outline = new long[s.outline.length][];
            for (int i = 0; i < outline.length; i++) {
                outline[i] = laid(s.outline[i], spot);
            }
            long low = spot.side == 0 ? s.low : -thickness - s.high;
            long high = spot.side == 0 ? s.high : -thickness - s.low;
            found.add(new Solid(s.kind, outline, low, high, s.flat, s.round, s.mass));
        }
        return found;
    }

    private static long[] laid(long[] place, Spot spot) {
        long[] found = {spot.side == 0 ? place[0] : -place[0], place[1]};
        for (int i = 0; i < spot.turn; i++) {
            found = new long[] {-found[1], found[0]};
        }
        return new long[] {found[0] + spot.x, found[1] + spot.y};
    }

    private List<int[]> pairs() {
        List<int[]> found = new ArrayList<>();
        for (int a = 0; a < spots.size(); a++) {
            for (int b = a + 1; b < spots.size(); b++) {
                if (meeting(spots.get(a), spots.get(b)) == 1) {
                    found.add(new int[] {a, b});
                }
            }
        }
        return found;
    }

    private boolean breaksOne(Spot spot) {
        for (KeepOut each : keepOuts) {
            for (Solid s : laid(spot)) {
                if (each.side == spot.side && sign(s, each.space) < 0) {
                    return true;
                }
            }
        }
        return false;
    }

    private int meeting(Spot a, Spot b) {
        Two two = new Two(a, bodies.get(a.body).size(), b, bodies.get(b.body).size());
        Integer before = known.get(two);
        if (before != null) {
            return before;
        }
        int nearest = 1;
        List<Solid> laidB = laid(b);
        for (Solid s : laid(a)) {
            for (Solid t : laidB) {
                nearest = Math.min(nearest, sign(s, t));
            }
        }
        int found = nearest < 0 ? 1 : nearest == 0 ? 2 : 0;
        known.put(two, found);
        return found;
    }

    /** Below 0: inner points in common; 0: only border; above 0: nothing. */
    private static int sign(Solid s, Solid t) {
        for (int axis = 0; axis < 3; axis++) {
            if (s.least(axis) > t.greatest(axis) || t.least(axis) > s.greatest(axis)) {
                return 1;
            }
        }
        long between = Math.max(s.low - t.high, t.low - s.high);
        long round = s.round + t.round;
        long flat = s.flat + t.flat;
        List<long[]> hull = difference(s.outline, t.outline);
        if (round == 0) {
            int level = flat == 0 ? Math.min(1, insideness(hull)) : away(hull).subtract(BigDecimal.valueOf(flat)).signum();
            return Math.max(level, Long.signum(between));
        }
        BigDecimal level = away(hull).subtract(BigDecimal.valueOf(flat)).max(BigDecimal.ZERO);
        BigDecimal height = BigDecimal.valueOf(Math.max(0, between));
        BigDecimal square = level.multiply(level).add(height.multiply(height));
        BigDecimal rest = square.subtract(BigDecimal.valueOf(round * round));
        return rest.abs().compareTo(NOTHING) < 0 ? 0 : rest.signum();
    }

    /** The hull, to the left around, of all places of the one outline less those of the other. */
    private static List<long[]> difference(long[][] a, long[][] b) {
        List<long[]> all = new ArrayList<>();
        for (long[] p : a) {
            for (long[] q : b) {
                all.add(less(p, q));
            }
        }
        all.sort((p, q) -> p[0] != q[0] ? Long.compare(p[0], q[0]) : Long.compare(p[1], q[1]));
        List<long[]> hull = half(all);
        Collections.reverse(all);
        List<long[]> back = half(all);
        hull.addAll(back.subList(1, Math.max(1, back.size() - 1)));
        return hull;
    }

    private static List<long[]> half(List<long[]> sorted) {
        List<long[]> found = new ArrayList<>();
        for (long[] p : sorted) {
            int n = found.size();
            while (n >= 2 && cross(less(found.get(n - 1), found.get(n - 2)), less(p, found.get(n - 1))) <= 0) {
                found.remove(--n);
            }
            if (n == 0 || found.get(n - 1)[0] != p[0] || found.get(n - 1)[1] != p[1]) {
                found.add(p);
            }
        }
        return found;
    }

    /** Of 0, 0 in a hull with an inside: -1 in it, 0 on its border, 1 outside. */
    private static int insideness(List<long[]> hull) {
        int found = -1;
        for (int i = 0; i < hull.size(); i++) {
            found = Math.max(found, Long.signum(-cross(hull.get(i), hull.get((i + 1) % hull.size()))));
        }
        return found;
    }

    /** How far 0, 0 is from the hull. */
    private static BigDecimal away(List<long[]> hull) {
        if (hull.size() > 2 && insideness(hull) <= 0) {
            return BigDecimal.ZERO;
        }
        BigDecimal found = null;
        for (int i = 0; i < hull.size(); i++) {
            BigDecimal each = squareAway(hull.get(i), hull.get((i + 1) % hull.size()));
            found = found == null ? each : found.min(each);
        }
        return found.sqrt(DIGITS);
    }

    private static BigDecimal squareAway(long[] p, long[] q) {
        long[] along = less(q, p);
        long part = -dot(p, along);
        if (part <= 0) {
            return BigDecimal.valueOf(dot(p, p));
        }
        if (part >= dot(along, along)) {
            return BigDecimal.valueOf(dot(q, q));
        }
        BigDecimal across = BigDecimal.valueOf(cross(p, q));
        return across.multiply(across).divide(BigDecimal.valueOf(dot(along, along)), DIGITS);
    }
}
