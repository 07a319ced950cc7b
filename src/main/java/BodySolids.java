import java.util.ArrayList;
import java.util.Arrays;

/**
 * Bodies of boxes, cylinders, prisms and tubes' pieces, placed on both sides of a board;
 * which of them have inner points in common and which only touch is told exactly, in whole numbers.
 */
public final class BodySolids {
    public static final int NONE = -1;

    private static final int MOST_BODIES = 30;
    private static final int MOST_SOLIDS = 12;
    private static final int MOST_CORNERS = 8;
    private static final int MOST_PLACEMENTS = 30;
    private static final int MOST_KEEP_OUTS = 10;

    private static final long MOST_THICKNESS = 1_000;
    private static final long FARTHEST_PLACE = 5_000;
    private static final long MOST_HEIGHT = 5_000;
    private static final long MOST_SIZE = 5_000;
    private static final long MOST_TUBE_RADIUS = 500;
    private static final long MOST_TUBE_LENGTH = 10_000;
    private static final long FARTHEST_PLACEMENT = 10_000;
    private static final long FARTHEST_KEEP_OUT = 20_000;

    // No solid reaches so high: a keep-out that ends there is as good as one without an end.
    private static final long BEYOND_ALL_SOLIDS = 30_000;

    private static final int BOX = 0;
    private static final int CYLINDER = 1;
    private static final int PRISM = 2;
    private static final int TUBE = 3;

    // 226 times a volume is whole for every kind: 226 * 355 / 113 = 710.
    private static final long MASS_OF_CUBE = 226;
    private static final long MASS_OF_HALF_CUBE = 113;
    private static final long MASS_OF_ROUND = 710;

    private static final int APART = 0;
    private static final int CLASH = 1;
    private static final int TOUCH = 2;
    private static final int UNKNOWN = -1;

    private final long thickness;
    private final ArrayList<Body> bodies;
    private final ArrayList<Placement> placements;
    private final ArrayList<KeepOut> keepOuts;
    private final long[] cornerX;
    private final long[] cornerY;
    private int corners;

    // What two placements are to each other, kept until one of them changes.
    private final int[] relations;

    // Used again by every call, so that no call that only asks makes objects.
    private final Layout first;
    private final Layout second;

    public BodySolids(long thickness) {
        this.thickness = Math.max(0, Math.min(MOST_THICKNESS, thickness));
        bodies = new ArrayList<Body>();
        placements = new ArrayList<Placement>();
        keepOuts = new ArrayList<KeepOut>();
        cornerX = new long[MOST_CORNERS];
        cornerY = new long[MOST_CORNERS];
        corners = 0;
        relations = new int[MOST_PLACEMENTS * MOST_PLACEMENTS];
        Arrays.fill(relations, UNKNOWN);
        first = new Layout();
        second = new Layout();
    }

    public int body() {
        return bodies.size() < MOST_BODIES ? addBody(new Body()) : NONE;
    }

    public boolean box(int body, long x, long y, long z, long w, long h, long d)
            throws IndexOutOfBoundsException, IllegalArgumentException {
        Body owner = bodyAt(body);
        needPlace(x, y);
        needSize(w);
        needSize(h);
        needPlace(x + w, y + h);
        needUpright(z, d);
        if (owner.isFull()) {
            return false;
        }
        Solid made = new Solid();
        made.begin(BOX, 0, 0);
        made.addRectangle(x, y, x + w, y + h);
        made.setHeights(z, z + d);
        owner.add(made, MASS_OF_CUBE * w * h * d);
        forgetRelationsOf(owner);
        return true;
    }

    public boolean cylinder(int body, long x, long y, long z, long r, long d)
            throws IndexOutOfBoundsException, IllegalArgumentException {
        Body owner = bodyAt(body);
        needPlace(x, y);
        needSize(r);
        needUpright(z, d);
        if (owner.isFull()) {
            return false;
        }
        Solid made = new Solid();
        made.begin(CYLINDER, r, 0);
        made.addCorner(x, y);
        made.setHeights(z, z + d);
        owner.add(made, MASS_OF_ROUND * r * r * d);
        forgetRelationsOf(owner);
        return true;
    }

    public boolean corner(long x, long y) throws IllegalArgumentException {
        needPlace(x, y);
        if (corners >= MOST_CORNERS) {
            return false;
        }
        cornerX[corners] = x;
        cornerY[corners] = y;
        corners++;
        return true;
    }

    public boolean prism(int body, long z, long d) throws IndexOutOfBoundsException, IllegalArgumentException {
        Body owner = bodyAt(body);
        needUpright(z, d);
        if (!cornersMakePolygon()) {
            corners = 0;
            return false;
        }
        if (owner.isFull()) {
            return false;
        }
        Solid made = new Solid();
        made.begin(PRISM, 0, 0);
        for (int i = 0; i < corners && i < MOST_CORNERS; i++) {
            made.addCorner(cornerX[i], cornerY[i]);
        }
        made.setHeights(z, z + d);
        owner.add(made, MASS_OF_HALF_CUBE * twiceAreaOfCorners() * d);
        forgetRelationsOf(owner);
        corners = 0;
        return true;
    }

    public boolean tube(int body, long r, long x, long y, long z, int axis, long length)
            throws IndexOutOfBoundsException, IllegalArgumentException {
        Body owner = bodyAt(body);
        needWithin(r, 1, MOST_TUBE_RADIUS);
        needWithin(axis, 0, 2);
        needWithin(length, -MOST_TUBE_LENGTH, MOST_TUBE_LENGTH);
        needPlace(x, y);
        needWithin(z, r, MOST_HEIGHT);
        long endX = axis == 0 ? x + length : x;
        long endY = axis == 1 ? y + length : y;
        long endZ = axis == 2 ? z + length : z;
        needPlace(endX, endY);
        needWithin(endZ, r, MOST_HEIGHT);
        if (owner.isFull()) {
            return false;
        }
        Solid made = new Solid();
        made.begin(TUBE, 0, r);
        made.addCorner(x, y);
        made.addCorner(endX, endY);
        made.setHeights(Math.min(z, endZ), Math.max(z, endZ));
        owner.add(made, MASS_OF_ROUND * r * r * Math.abs(length));
        forgetRelationsOf(owner);
        return true;
    }

    public int join(int a, int b) throws IndexOutOfBoundsException {
        Body one = bodyAt(a);
        Body other = bodyAt(b);
        if (bodies.size() >= MOST_BODIES || one.solids.size() + other.solids.size() > MOST_SOLIDS) {
            return NONE;
        }
        Body joined = new Body();
        joined.addAllOf(one);
        joined.addAllOf(other);
        return addBody(joined);
    }

    public int place(int body, long x, long y, int turn, int side)
            throws IndexOutOfBoundsException, IllegalArgumentException {
        Body placed = bodyAt(body);
        needPosition(x, y, turn, side);
        int number = placements.size();
        if (number >= MOST_PLACEMENTS) {
            return NONE;
        }
        Placement made = new Placement(placed);
        made.goTo(x, y, turn, side);
        placements.add(made);
        return number;
    }

    public boolean move(int place, long x, long y, int turn, int side)
            throws IndexOutOfBoundsException, IllegalArgumentException {
        Placement moved = placementAt(place);
        needPosition(x, y, turn, side);
        if (moved.isAt(x, y, turn, side)) {
            return false;
        }
        moved.goTo(x, y, turn, side);
        forgetRelationsAt(place);
        return true;
    }

    public int clash(int a, int b) throws IndexOutOfBoundsException {
        placementAt(a);
        placementAt(b);
        return a == b ? APART : relation(a, b);
    }

    public int clashes() {
        int found = 0;
        for (int a = 0; a < placements.size(); a++) {
            for (int b = a + 1; b < placements.size(); b++) {
                if (relation(a, b) == CLASH) {
                    found++;
                }
            }
        }
        return found;
    }

    public int pair(int k, int which) throws IndexOutOfBoundsException {
        needIndex(which, 2);
        int seen = 0;
        for (int a = 0; a < placements.size(); a++) {
            for (int b = a + 1; b < placements.size(); b++) {
                if (relation(a, b) == CLASH) {
                    if (seen == k) {
                        return which == 0 ? a : b;
                    }
                    seen++;
                }
            }
        }
        return NONE;
    }

    public boolean keepOut(long x0, long y0, long x1, long y1, int side, long height)
            throws IllegalArgumentException {
        needWithin(x0, -FARTHEST_KEEP_OUT, FARTHEST_KEEP_OUT);
        needWithin(y0, -FARTHEST_KEEP_OUT, FARTHEST_KEEP_OUT);
        needWithin(x1, x0 + 1, FARTHEST_KEEP_OUT);
        needWithin(y1, y0 + 1, FARTHEST_KEEP_OUT);
        needWithin(side, 0, 1);
        needWithin(height, 0, FARTHEST_KEEP_OUT);
        if (keepOuts.size() >= MOST_KEEP_OUTS) {
            return false;
        }
        Solid space = new Solid();
        space.begin(BOX, 0, 0);
        space.addRectangle(x0, y0, x1, y1);
        if (side == 0) {
            space.setHeights(height, height + BEYOND_ALL_SOLIDS);
        } else {
            space.setHeights(-thickness - height - BEYOND_ALL_SOLIDS, -thickness - height);
        }
        keepOuts.add(new KeepOut(space, side));
        return true;
    }

    public int breaks(int k) {
        int seen = 0;
        for (int i = 0; i < placements.size(); i++) {
            if (breaksSome(placements.get(i))) {
                if (seen == k) {
                    return i;
                }
                seen++;
            }
        }
        return NONE;
    }

    public long bound(int place, int what) throws IndexOutOfBoundsException, IllegalStateException {
        Placement asked = placementAt(place);
        needIndex(what, 6);
        first.lay(asked, thickness);
        if (first.count == 0) {
            throw new IllegalStateException("the placement's body is empty");
        }
        long found = first.solids[0].limit(what);
        for (int i = 1; i < first.count; i++) {
            long limit = first.solids[i].limit(what);
            found = what < 3 ? Math.min(found, limit) : Math.max(found, limit);
        }
        return found;
    }

    public long section(long height, int k, int what) throws IndexOutOfBoundsException {
        needIndex(what, 6);
        int seen = 0;
        for (int i = 0; i < placements.size(); i++) {
            first.lay(placements.get(i), thickness);
            for (int j = 0; j < first.count; j++) {
                if (first.solids[j].isCutAt(height)) {
                    if (seen == k) {
                        return sectionAnswer(i, j, what);
                    }
                    seen++;
                }
            }
        }
        return NONE;
    }

    public long mass(int body) throws IndexOutOfBoundsException {
        return bodyAt(body).weight;
    }

    private static void needIndex(int index, int count) {
        if (index < 0 || index >= count) {
            throw new IndexOutOfBoundsException("no such number");
        }
    }

    private static void needWithin(long value, long least, long greatest) {
        if (value < least || value > greatest) {
            throw new IllegalArgumentException("a value is out of its range");
        }
    }

    private static void needPlace(long x, long y) {
        needWithin(x, -FARTHEST_PLACE, FARTHEST_PLACE);
        needWithin(y, -FARTHEST_PLACE, FARTHEST_PLACE);
    }

    private static void needSize(long size) {
        needWithin(size, 1, MOST_SIZE);
    }

    private static void needUpright(long z, long d) {
        needWithin(z, 0, MOST_HEIGHT);
        needSize(d);
        needWithin(z + d, 0, MOST_HEIGHT);
    }

    private static void needPosition(long x, long y, int turn, int side) {
        needWithin(x, -FARTHEST_PLACEMENT, FARTHEST_PLACEMENT);
        needWithin(y, -FARTHEST_PLACEMENT, FARTHEST_PLACEMENT);
        needWithin(turn, 0, 3);
        needWithin(side, 0, 1);
    }

    private Body bodyAt(int number) {
        needIndex(number, bodies.size());
        return bodies.get(number);
    }

    private Placement placementAt(int number) {
        needIndex(number, placements.size());
        return placements.get(number);
    }

    private int addBody(Body made) {
        bodies.add(made);
        return bodies.size() - 1;
    }

    private boolean cornersMakePolygon() {
        if (corners < 3) {
            return false;
        }
        for (int i = 0; i < corners; i++) {
            if (!othersLieLeftOfSide(i, i + 1 < corners ? i + 1 : 0)) {
                return false;
            }
        }
        return true;
    }

    private boolean othersLieLeftOfSide(int from, int to) {
        for (int j = 0; j < corners; j++) {
            if (j != from && j != to && turnAt(from, to, j) <= 0) {
                return false;
            }
        }
        return true;
    }

    private long twiceAreaOfCorners() {
        long sum = 0;
        for (int i = 2; i < corners; i++) {
            sum += turnAt(0, i - 1, i);
        }
        return sum;
    }

    private long turnAt(int from, int to, int other) {
        return (cornerX[to] - cornerX[from]) * (cornerY[other] - cornerY[from])
                - (cornerY[to] - cornerY[from]) * (cornerX[other] - cornerX[from]);
    }

    private static int relationSlot(int a, int b) {
        return Math.min(a, b) * MOST_PLACEMENTS + Math.max(a, b);
    }

    private void forgetRelationsAt(int placement) {
        for (int other = 0; other < MOST_PLACEMENTS; other++) {
            relations[relationSlot(placement, other)] = UNKNOWN;
        }
    }

    private void forgetRelationsOf(Body changed) {
        for (int i = 0; i < placements.size(); i++) {
            if (placements.get(i).body == changed) {
                forgetRelationsAt(i);
            }
        }
    }

    private int relation(int a, int b) {
        int slot = relationSlot(a, b);
        if (relations[slot] == UNKNOWN) {
            first.lay(placements.get(a), thickness);
            second.lay(placements.get(b), thickness);
            relations[slot] = relationOfLayouts();
        }
        return relations[slot];
    }

    private int relationOfLayouts() {
        int found = APART;
        for (int i = 0; i < first.count; i++) {
            for (int j = 0; j < second.count; j++) {
                int meeting = Meeting.of(first.solids[i], second.solids[j]);
                if (meeting == Meeting.INNER) {
                    return CLASH;
                }
                if (meeting == Meeting.BORDER) {
                    found = TOUCH;
                }
            }
        }
        return found;
    }

    private boolean breaksSome(Placement asked) {
        first.lay(asked, thickness);
        for (int i = 0; i < keepOuts.size(); i++) {
            KeepOut rule = keepOuts.get(i);
            if (rule.side == asked.side && first.reachesInto(rule.space)) {
                return true;
            }
        }
        return false;
    }

    private long sectionAnswer(int placement, int solid, int what) {
        switch (what) {
            case 0:
                return placement;
            case 1:
                return solid;
            case 2:
                return first.solids[solid].limit(0);
            case 3:
                return first.solids[solid].limit(1);
            case 4:
                return first.solids[solid].limit(3);
            default:
                return first.solids[solid].limit(4);
        }
    }

    /** Solids are never changed once they are in a body, so bodies that were joined share them. */
    private static final class Body {
        final ArrayList<Solid> solids = new ArrayList<Solid>();
        long weight = 0;

        boolean isFull() {
            return solids.size() >= MOST_SOLIDS;
        }

        void add(Solid solid, long itsWeight) {
            solids.add(solid);
            weight += itsWeight;
        }

        void addAllOf(Body other) {
            for (int i = 0; i < other.solids.size(); i++) {
                solids.add(other.solids.get(i));
            }
            weight += other.weight;
        }
    }

    private static final class Placement {
        final Body body;
        long x;
        long y;
        int turn;
        int side;

        Placement(Body body) {
            this.body = body;
        }

        boolean isAt(long otherX, long otherY, int otherTurn, int otherSide) {
            return x == otherX && y == otherY && turn == otherTurn && side == otherSide;
        }

        void goTo(long newX, long newY, int newTurn, int newSide) {
            x = newX;
            y = newY;
            turn = newTurn;
            side = newSide;
        }

        long boardX(long ownX, long ownY) {
            long mirrored = side == 1 ? -ownX : ownX;
            switch (turn) {
                case 0:
                    return x + mirrored;
                case 1:
                    return x - ownY;
                case 2:
                    return x - mirrored;
                default:
                    return x + ownY;
            }
        }

        long boardY(long ownX, long ownY) {
            long mirrored = side == 1 ? -ownX : ownX;
            switch (turn) {
                case 0:
                    return y + ownY;
                case 1:
                    return y + mirrored;
                case 2:
                    return y - ownY;
                default:
                    return y - mirrored;
            }
        }
    }

    /** The space that solids must not reach into, as a box so high that none ends above it. */
    private static final class KeepOut {
        final Solid space;
        final int side;

        KeepOut(Solid space, int side) {
            this.space = space;
            this.side = side;
        }
    }

    /**
     * Every kind is a core (a convex outline with a range of heights) and what lies near it:
     * in the level by up to 'flat' (a cylinder's radius), in space by up to 'round' (a tube's).
     */
    private static final class Solid {
        int kind;
        long flat;
        long round;
        final long[] xs = new long[MOST_CORNERS];
        final long[] ys = new long[MOST_CORNERS];
        int corners;
        long x0;
        long y0;
        long z0;
        long x1;
        long y1;
        long z1;

        void begin(int newKind, long newFlat, long newRound) {
            kind = newKind;
            flat = newFlat;
            round = newRound;
            corners = 0;
        }

        void addCorner(long x, long y) {
            if (corners >= MOST_CORNERS) {
                return;
            }
            x0 = corners == 0 ? x : Math.min(x0, x);
            y0 = corners == 0 ? y : Math.min(y0, y);
            x1 = corners == 0 ? x : Math.max(x1, x);
            y1 = corners == 0 ? y : Math.max(y1, y);
            xs[corners] = x;
            ys[corners] = y;
            corners++;
        }

        void addRectangle(long left, long low, long right, long high) {
            addCorner(left, low);
            addCorner(right, low);
            addCorner(right, high);
            addCorner(left, high);
        }

        void setHeights(long lower, long upper) {
            z0 = lower;
            z1 = upper;
        }

        void layAs(Solid own, Placement where, long thickness) {
            begin(own.kind, own.flat, own.round);
            // A mirror turns the corners' order round; taken backwards, a prism stays left of its sides.
            boolean backwards = where.side == 1;
            for (int i = 0; i < own.corners && i < MOST_CORNERS; i++) {
                int from = backwards ? own.corners - 1 - i : i;
                addCorner(where.boardX(own.xs[from], own.ys[from]), where.boardY(own.xs[from], own.ys[from]));
            }
            if (where.side == 1) {
                setHeights(-thickness - own.z1, -thickness - own.z0);
            } else {
                setHeights(own.z0, own.z1);
            }
        }

        boolean isCutAt(long height) {
            return kind != TUBE && z0 < height && height < z1;
        }

        long limit(int what) {
            switch (what) {
                case 0:
                    return x0 - flat - round;
                case 1:
                    return y0 - flat - round;
                case 2:
                    return z0 - round;
                case 3:
                    return x1 + flat + round;
                case 4:
                    return y1 + flat + round;
                default:
                    return z1 + round;
            }
        }
    }

    /** The solids of one placement where they are on the board; its rows are used again and again. */
    private static final class Layout {
        final Solid[] solids = new Solid[MOST_SOLIDS];
        int count = 0;

        Layout() {
            for (int i = 0; i < MOST_SOLIDS; i++) {
                solids[i] = new Solid();
            }
        }

        void lay(Placement placement, long thickness) {
            ArrayList<Solid> own = placement.body.solids;
            count = Math.min(own.size(), MOST_SOLIDS);
            for (int i = 0; i < count; i++) {
                solids[i].layAs(own.get(i), placement, thickness);
            }
        }

        boolean reachesInto(Solid space) {
            for (int i = 0; i < count; i++) {
                if (Meeting.of(solids[i], space) == Meeting.INNER) {
                    return true;
                }
            }
            return false;
        }
    }

    /**
     * How two solids meet. The three answers are also the signs of "how far apart minus how far
     * they reach", and rise, so that what must hold in the level and in the height is the greater one.
     */
    private static final class Meeting {
        static final int INNER = -1;
        static final int BORDER = 0;
        static final int CLEAR = 1;

        static int of(Solid a, Solid b) {
            long flat = a.flat + b.flat;
            long round = a.round + b.round;
            long dx = gap(a.x0, a.x1, b.x0, b.x1);
            long dy = gap(a.y0, a.y1, b.y0, b.y1);
            long dz = gap(a.z0, a.z1, b.z0, b.z1);
            if (dx > flat + round || dy > flat + round || dz > round) {
                return CLEAR;
            }
            if (round == 0) {
                int level = flat == 0 ? outlines(a, b) : distance(a, b, flat * flat);
                return Math.max(level, sign(dz));
            }
            long rest = round * round - squareIfAbove(dz);
            if (flat == 0) {
                return distance(a, b, rest);
            }
            return discAndRound(squareIfAbove(dx) + squareIfAbove(dy), flat, rest);
        }

        /** Above 0: so far apart; 0: end to end; below 0: overlapping. */
        private static long gap(long a0, long a1, long b0, long b1) {
            return Math.max(b0 - a1, a0 - b1);
        }

        private static int sign(long value) {
            return value > 0 ? 1 : value < 0 ? -1 : 0;
        }

        private static long squareIfAbove(long length) {
            return length > 0 ? length * length : 0;
        }

        /**
         * How the cores' outlines meet. Convex outlines are apart just when a side of one of them parts
         * them; all sides but those of prisms go along the axes.
         */
        private static int outlines(Solid a, Solid b) {
            long dx = gap(a.x0, a.x1, b.x0, b.x1);
            long dy = gap(a.y0, a.y1, b.y0, b.y1);
            int found = sign(Math.max(dx, dy));
            if (a.kind == PRISM && found != CLEAR) {
                found = Math.max(found, partedBySides(a, b));
            }
            if (b.kind == PRISM && found != CLEAR) {
                found = Math.max(found, partedBySides(b, a));
            }
            return found;
        }

        private static int partedBySides(Solid prism, Solid other) {
            int found = INNER;
            for (int i = 0; i < prism.corners && found != CLEAR; i++) {
                int to = i + 1 < prism.corners ? i + 1 : 0;
                long alongX = prism.xs[to] - prism.xs[i];
                long alongY = prism.ys[to] - prism.ys[i];
                int atSide = CLEAR;
                for (int j = 0; j < other.corners && atSide != INNER; j++) {
                    long right = alongY * (other.xs[j] - prism.xs[i]) - alongX * (other.ys[j] - prism.ys[i]);
                    atSide = Math.min(atSide, sign(right));
                }
                found = Math.max(found, atSide);
            }
            return found;
        }

        /** The sign of the square of the outlines' distance less the one given. */
        private static int distance(Solid a, Solid b, long square) {
            if (outlines(a, b) != CLEAR) {
                return sign(-square);
            }
            if (a.kind == PRISM) {
                return Math.min(cornersDistance(a, b, square), sidesDistance(a, b, square));
            }
            if (b.kind == PRISM) {
                return Math.min(cornersDistance(b, a, square), sidesDistance(b, a, square));
            }
            long dx = gap(a.x0, a.x1, b.x0, b.x1);
            long dy = gap(a.y0, a.y1, b.y0, b.y1);
            return sign(squareIfAbove(dx) + squareIfAbove(dy) - square);
        }

        private static int cornersDistance(Solid prism, Solid other, long square) {
            int found = CLEAR;
            for (int i = 0; i < prism.corners; i++) {
                long dx = gap(prism.xs[i], prism.xs[i], other.x0, other.x1);
                long dy = gap(prism.ys[i], prism.ys[i], other.y0, other.y1);
                found = Math.min(found, sign(squareIfAbove(dx) + squareIfAbove(dy) - square));
            }
            return found;
        }

        private static int sidesDistance(Solid prism, Solid other, long square) {
            int found = CLEAR;
            for (int i = 0; i < prism.corners; i++) {
                found = Math.min(found, sideDistance(prism, i, other, square));
            }
            return found;
        }

        /** Only corners beside the side itself count: to the others its ends are nearer. */
        private static int sideDistance(Solid prism, int from, Solid other, long square) {
            int to = from + 1 < prism.corners ? from + 1 : 0;
            long alongX = prism.xs[to] - prism.xs[from];
            long alongY = prism.ys[to] - prism.ys[from];
            long length = alongX * alongX + alongY * alongY;
            int found = CLEAR;
            for (int j = 0; j < other.corners; j++) {
                long dx = other.xs[j] - prism.xs[from];
                long dy = other.ys[j] - prism.ys[from];
                long along = alongX * dx + alongY * dy;
                long across = alongX * dy - alongY * dx;
                if (along > 0 && along < length) {
                    // Both sides times the side's squared length, so that nothing is divided.
                    found = Math.min(found, sign(across * across - square * length));
                }
            }
            return found;
        }

        /**
         * A cylinder and a tube: the sign of (max(0, root of n - flat)) squared less rest. With
         * n + flat * flat - rest against 2 * flat * (root of n), both squared, no root is left.
         */
        private static int discAndRound(long n, long flat, long rest) {
            if (n <= flat * flat) {
                return sign(-rest);
            }
            long whole = n + flat * flat - rest;
            if (whole < 0) {
                return INNER;
            }
            return sign(whole * whole - 4 * flat * flat * n);
        }
    }
}
