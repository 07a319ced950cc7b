import java.util.ArrayList;
import java.util.Arrays;
import java.util.List;
import java.util.Random;
import java.util.TreeMap;

/**
 * Random runs of 512 calls beside the model. Each grows to 30 bodies of 12 solids, 30 placements, 10 keep-outs and eight
 * corners, is asked, moved and told wrong things all the while, and ends with another method of the face.
 */
final class RandomRunTest {
    private static final int RUNS = 102;
    private static final String[] FACE = {
        "body", "box", "cylinder", "corner", "prism", "tube", "join", "place", "move", "clash", "clashes", "pair", "keepOut",
        "breaks", "bound", "section", "mass",
    };
    private static final long[][][] OUTLINES = {
        {{0, -3}, {2, -2}, {3, 0}, {2, 2}, {0, 3}, {-2, 2}, {-3, 0}, {-2, -2}},
        {{-4, -1}, {-1, -3}, {2, -3}, {4, -2}, {5, 1}, {3, 3}, {0, 4}, {-3, 2}},
        {{0, 0}, {1, -3}, {3, -6}, {6, -5}, {7, -3}, {6, 0}, {4, 2}, {1, 1}},
    };
    private static final long[] FAR = {Long.MIN_VALUE, Integer.MIN_VALUE, -20001, -1, 20001, Integer.MAX_VALUE, Long.MAX_VALUE};

    private record Call(String name, long... told) {
    }

    private static final TreeMap<String, Integer> SEEN = new TreeMap<>();

    private final Random dice;
    private final Run run;
    private final long unit;
    private final long thickness;
    private final int spread;
    private final List<Call> plan = new ArrayList<>();
    // Where each placement was put last, as the calls told it.
    private final List<long[]> stands = new ArrayList<>();

    public static void main(String[] args) {
        long[] units = {1, 1, 7, 60, 400, 416};
        for (int i = 0; i < RUNS; i++) {
            new RandomRunTest(i, units[i % units.length]).play(i % 3 == 0, FACE[i % FACE.length]);
        }
        for (String name : FACE) {
            Due.yes(name + " was often called", SEEN.getOrDefault(name, 0) > RUNS);
        }
        for (String answer : new String[] {"clash 0", "clash 1", "clash 2", "pair", "breaks", "section", "move 0", "move 1"}) {
            Due.yes("answers of " + answer + " were often seen, " + SEEN, SEEN.getOrDefault(answer + " seen", 0) > RUNS);
        }
        Due.end();
    }

    private RandomRunTest(long seed, long unit) {
        dice = new Random(seed);
        this.unit = unit;
        // Through a board of no thickness what is on the two sides touches.
        thickness = unit * Math.max(0, dice.nextInt(5) - 2);
        spread = 6 + dice.nextInt(19);
        run = new Run(thickness);
    }

    private void play(boolean eachByItself, String last) {
        if (eachByItself) {
            planOwnSolids();
        } else {
            planJoined();
        }
        planBesides();
        for (long[] place : OUTLINES[0]) {
            plan.add(new Call("corner", place));
        }
        int early = (Run.MOST_CALLS - plan.size()) / 2;
        for (int i = 0; i < plan.size(); i++) {
            make(plan.get(i));
            if (dice.nextInt(plan.size()) < early) {
                ask();
            }
        }
        isFull();
        while (run.callsLeft() > 1) {
            ask();
        }
        make(anyOf(last));
        Due.is("calls left", run.callsLeft(), 0);
    }

    private void make(Call call) {
        long answer = run.call(call.name, call.told);
        SEEN.merge(call.name, 1, Integer::sum);
        boolean counted = call.name.equals("clash") || call.name.equals("move");
        if (answer >= 0) {
            SEEN.merge(call.name + (counted ? " " + answer : "") + " seen", 1, Integer::sum);
        }
        note(call, answer);
    }

    private void note(Call call, long answer) {
        if (call.name.equals("place") && answer >= 0) {
            stands.add(Arrays.copyOfRange(call.told, 1, 5));
        }
        if (call.name.equals("move") && answer == 1) {
            stands.set((int) call.told[0], Arrays.copyOfRange(call.told, 1, 5));
        }
    }

    /** What the plan was to reach; whatever is asked for more is refused. */
    private void isFull() {
        run.due(-1, "body");
        run.due(0, "box", dice.nextInt(30), 0, 0, 0, 1, 1, 1);
        run.due(-1, "place", 0, 0, 0, 0, 0);
        run.due(0, "keepOut", 0, 0, 1, 1, 0, 0);
        run.due(0, "corner", 0, 0);
    }

    /** All bodies grow at once, so that a placement's body is hardly ever done when it is asked about. */
    private void planOwnSolids() {
        int[] solids = new int[30];
        int open = 0;
        int prisms = 4;
        for (int left = 360; left > 0;) {
            if (open < 30 && dice.nextInt(6) == 0 || open == 0) {
                plan.add(new Call("body"));
                open++;
            }
            int body = dice.nextInt(open);
            if (solids[body] < 12) {
                solids[body]++;
                left--;
                prisms -= planSolid(body, prisms > 0 ? 4 : 3);
            }
        }
    }

    /** Eight bodies of six solids, 22 joined of them, and then the eight are filled up. */
    private void planJoined() {
        for (int body = 0; body < 8; body++) {
            plan.add(new Call("body"));
            for (int i = 0; i < 6; i++) {
                planSolid(body, 4);
            }
        }
        for (int i = 8; i < 30; i++) {
            plan.add(new Call("join", dice.nextInt(8), dice.nextInt(8)));
        }
        for (int i = 0; i < 48; i++) {
            planSolid(i % 8, i % 3 == 0 ? 4 : 3);
        }
    }

    /** Placements and keep-outs among the rest, a placement behind its body. */
    private void planBesides() {
        for (int i = 0; i < 30; i++) {
            int at = dice.nextInt(plan.size() / 2) + plan.size() / 2;
            int bodies = 0;
            for (Call call : plan.subList(0, at)) {
                bodies += call.name.equals("body") || call.name.equals("join") ? 1 : 0;
            }
            plan.add(at, new Call("place", dice.nextInt(bodies), spot(), spot(), dice.nextInt(4), dice.nextInt(2)));
        }
        for (int i = 0; i < 10; i++) {
            plan.add(dice.nextInt(plan.size()), keepOut());
        }
    }

    private Call keepOut() {
        long x = unit * (dice.nextInt(41) - 20);
        long y = unit * (dice.nextInt(41) - 20);
        return new Call("keepOut", x, y, x + unit * (1 + dice.nextInt(3)), y + unit * (1 + dice.nextInt(3)), dice.nextInt(2),
                unit * dice.nextInt(10));
    }

    private long spot() {
        return unit * (dice.nextInt(2 * spread + 1) - spread);
    }

    /** How many prisms were planned by it. */
    private int planSolid(int body, int kinds) {
        int kind = dice.nextInt(kinds);
        if (kind == 3) {
            planPrism(body);
            return 1;
        }
        plan.add(kind == 0 ? box(body) : kind == 1 ? cylinder(body) : tube(body));
        return 0;
    }

    private Call box(int body) {
        return new Call("box", body, unit * (dice.nextInt(18) - 10), unit * (dice.nextInt(18) - 10), unit * dice.nextInt(8),
                unit * (1 + dice.nextInt(3)), unit * (1 + dice.nextInt(3)), unit * (1 + dice.nextInt(4)));
    }

    private Call cylinder(int body) {
        return new Call("cylinder", body, unit * (dice.nextInt(21) - 10), unit * (dice.nextInt(21) - 10), unit * dice.nextInt(8),
                unit * (1 + dice.nextInt(2)), unit * (1 + dice.nextInt(4)));
    }

    private Call tube(int body) {
        long r = Math.min(500, unit * (1 + dice.nextInt(2)));
        long length = unit * (dice.nextInt(9) - 4);
        int axis = dice.nextInt(3);
        long z = r + unit * dice.nextInt(6);
        // Upwards only, so that no core comes below its radius.
        return new Call("tube", body, r, unit * (dice.nextInt(13) - 6), unit * (dice.nextInt(13) - 6), z, axis,
                axis == 2 ? Math.abs(length) : length);
    }

    /** Some of an outline's corners, from any of them on, as an outline of this kind may lose any. */
    private void planPrism(int body) {
        long[][] outline = OUTLINES[dice.nextInt(OUTLINES.length)];
        int first = dice.nextInt(8);
        int count = 3 + dice.nextInt(6);
        long moved = dice.nextInt(7) - 3;
        int taken = 0;
        for (int i = 0; i < 8; i++) {
            // As many are left as are wanted still: the rest must all be taken.
            if (count - taken == 8 - i || taken < count && dice.nextInt(8) < count) {
                long[] place = outline[(first + i) % 8];
                plan.add(new Call("corner", unit * (place[0] + moved), unit * (place[1] - moved)));
                taken++;
            }
        }
        plan.add(new Call("prism", body, unit * dice.nextInt(8), unit * (1 + dice.nextInt(4))));
    }

    private void ask() {
        String[] often = {"clash", "clash", "clash", "clashes", "pair", "pair", "breaks", "bound", "section", "mass", "move", "move"};
        if (dice.nextInt(8) == 0) {
            make(wrong());
        } else {
            make(anyOf(often[dice.nextInt(often.length)]));
        }
    }

    /** A call that is as said; those that add something come when there is no room, or ask for what is not there. */
    private Call anyOf(String name) {
        int place = stands.isEmpty() ? 0 : dice.nextInt(stands.size());
        int other = stands.isEmpty() ? 0 : dice.nextInt(stands.size());
        return switch (name) {
            case "box" -> box(dice.nextInt(30));
            case "cylinder" -> cylinder(dice.nextInt(30));
            case "corner" -> new Call("corner", unit, unit);
            case "prism" -> new Call("prism", dice.nextInt(30), unit, unit);
            case "tube" -> tube(dice.nextInt(30));
            case "join" -> new Call("join", dice.nextInt(30), dice.nextInt(30));
            case "place" -> new Call("place", dice.nextInt(30), spot(), spot(), 0, 0);
            case "move" -> move(place);
            case "clash" -> new Call("clash", place, other);
            case "pair" -> new Call("pair", dice.nextInt(dice.nextInt(60) + 1) - 1, dice.nextInt(2));
            case "keepOut" -> keepOut();
            case "breaks" -> new Call("breaks", dice.nextInt(12) - 1);
            case "bound" -> new Call("bound", place, dice.nextInt(6));
            case "section" -> new Call("section", height(), dice.nextInt(dice.nextInt(60) + 1) - 1, dice.nextInt(6));
            case "mass" -> new Call("mass", dice.nextInt(30));
            default -> new Call(name);
        };
    }

    private long height() {
        long height = unit * dice.nextInt(11) + (dice.nextInt(3) == 0 ? dice.nextInt(3) - 1 : 0);
        return dice.nextInt(2) == 0 ? height : -thickness - height;
    }

    /** Somewhere, or to where it stands, but for one of the four things that are told at times. */
    private Call move(int place) {
        long[] told = {place, spot(), spot(), dice.nextInt(4), dice.nextInt(2)};
        if (place < stands.size() && dice.nextInt(3) == 0) {
            int but = dice.nextInt(6);
            for (int i = 0; i < 4; i++) {
                told[i + 1] = i == but ? told[i + 1] : stands.get(place)[i];
            }
        }
        return new Call("move", told);
    }

    /** Calls that throw, or answer that there is none; the corners stay whatever is told. */
    private Call wrong() {
        long far = FAR[dice.nextInt(FAR.length)];
        long no = dice.nextBoolean() ? 30 + dice.nextInt(5) : -1 - dice.nextInt(3);
        return switch (dice.nextInt(16)) {
            case 0 -> new Call("box", no, 0, 0, 0, 1, 1, 1);
            case 1 -> new Call("box", 0, 0, 0, far, 1, 1, 1);
            case 2 -> new Call("cylinder", 0, 0, 0, 0, far, 1);
            case 3 -> new Call("corner", far < 0 ? -5001 : 5001, 0);
            case 4 -> new Call("prism", no, 0, 1);
            case 5 -> new Call("prism", 0, 5000, 1);
            case 6 -> new Call("tube", 0, 1, 0, 0, 1, no, 1);
            case 7 -> new Call("tube", 0, 1, 0, 0, 0, 0, 1);
            case 8 -> new Call("join", 0, no);
            case 9 -> new Call("place", 0, 0, 0, 0, 2);
            case 10 -> new Call("move", no, 0, 0, 0, 0);
            case 11 -> new Call("clash", no, 0);
            case 12 -> new Call("pair", 0, no);
            case 13 -> new Call("keepOut", 0, 0, 0, 1, 0, 0);
            case 14 -> new Call("bound", 0, no);
            default -> new Call("section", far, 0, no);
        };
    }
}
