/**
 * Calls at the ends of what is allowed and beyond them. Each is made on an object of its own, and what the object answers
 * later is compared with what another one answers on which the call was not made.
 */
final class Edges {
    private static final long[] HEIGHTS = {1, 3, -4, -6, 4999};

    /** Makes an object what it must be before the call. */
    interface Setup {
        void make(BodySolids x);
    }

    /** A call whose answer counts (a boolean 1 or 0). */
    interface Asked {
        long of(BodySolids x);
    }

    /** A call with one argument left open. */
    interface Told {
        long of(BodySolids x, long value);
    }

    private Edges() {
    }

    /** Something of everything: an empty body too, an empty placement, and a triangle that no prism has taken yet. */
    static void some(BodySolids x) {
        noCorners(x);
        x.corner(0, 0);
        x.corner(6, 0);
        x.corner(0, 3);
    }

    static void noCorners(BodySolids x) {
        x.body();
        x.box(0, 1, 2, 0, 3, 4, 5);
        x.cylinder(0, 10, 0, 1, 2, 4);
        x.body();
        x.tube(1, 2, 0, 0, 2, 0, 6);
        x.body();
        x.place(0, 0, 0, 0, 0);
        x.place(1, 3, 1, 1, 0);
        x.place(2, 5, 5, 0, 0);
        x.place(0, 2, 2, 0, 1);
        x.keepOut(0, 0, 20, 20, 0, 4);
    }

    /** The call answers as due, and some later call answers otherwise than without it. */
    static void taken(String what, Setup setup, long due, Asked call) {
        BodySolids x = made(setup);
        Due.is(what, call.of(x), due);
        Due.no(what + " has changed something", answers(x).equals(answers(made(setup))));
    }

    /** The call answers as due, and every later call answers as if it had not been made. */
    static void idle(String what, Setup setup, long due, Asked call) {
        becomes(what, setup, due, call, setup);
    }

    /** The call answers as due, and every later call answers as on an object that was made so. */
    static void becomes(String what, Setup setup, long due, Asked call, Setup then) {
        BodySolids x = made(setup);
        Due.is(what, call.of(x), due);
        compare(what, x, then);
    }

    static void noIndex(String what, Setup setup, Asked call) {
        BodySolids x = made(setup);
        Due.index(what, () -> call.of(x));
        compare(what, x, setup);
    }

    static void noArgument(String what, Setup setup, Asked call) {
        BodySolids x = made(setup);
        Due.argument(what, () -> call.of(x));
        compare(what, x, setup);
    }

    static void noState(String what, Setup setup, Asked call) {
        BodySolids x = made(setup);
        Due.state(what, () -> call.of(x));
        compare(what, x, setup);
    }

    /** The least and the greatest are taken; the first beyond each throws, as the farthest do, and changes nothing. */
    static void range(String what, Setup setup, long least, long greatest, long due, Told call) {
        taken(what + " least " + least, setup, due, x -> call.of(x, least));
        taken(what + " greatest " + greatest, setup, due, x -> call.of(x, greatest));
        long[] beyond = {least - 1, greatest + 1, Long.MIN_VALUE, Long.MAX_VALUE};
        for (long value : beyond) {
            noArgument(what + " " + value, setup, x -> call.of(x, value));
        }
    }

    /** The same for an int, each of whose values is tried. */
    static void choice(String what, Setup setup, int greatest, long due, Told call) {
        for (int value = 0; value <= greatest; value++) {
            int each = value;
            taken(what + " " + value, setup, due, x -> call.of(x, each));
        }
        long[] beyond = {-1, greatest + 1, Integer.MIN_VALUE, Integer.MAX_VALUE};
        for (long value : beyond) {
            noArgument(what + " " + value, setup, x -> call.of(x, value));
        }
    }

    /** No thing bears a number below 0, or count and above. */
    static void numbers(String what, Setup setup, int count, Told call) {
        long[] beyond = {-1, count, Integer.MIN_VALUE, Integer.MAX_VALUE};
        for (long value : beyond) {
            noIndex(what + " " + value, setup, x -> call.of(x, value));
        }
    }

    /** The k-th answers are due in their order; there is none behind the last one, and none below 0. */
    static void listed(String what, Setup setup, long[] due, Told call) {
        for (int k = 0; k < due.length; k++) {
            int each = k;
            idle(what + " " + k, setup, due[k], x -> call.of(x, each));
        }
        long[] beyond = {-1, due.length, due.length + 1, Integer.MIN_VALUE, Integer.MAX_VALUE};
        for (long value : beyond) {
            idle(what + " " + value, setup, BodySolids.NONE, x -> call.of(x, value));
        }
    }

    static BodySolids made(Setup setup) {
        BodySolids x = new BodySolids(3);
        setup.make(x);
        return x;
    }

    private static void compare(String what, BodySolids x, Setup setup) {
        String got = answers(x);
        String want = answers(made(setup));
        if (!got.equals(want)) {
            Due.yes(what + ": later answers are" + got + ", due are" + want, false);
        } else {
            Due.yes(what, true);
        }
    }

    /** What an object answers, at last to calls that change it; they stay below the document's 512. */
    private static String answers(BodySolids x) {
        StringBuilder all = new StringBuilder();
        masses(x, all);
        bounds(x, all);
        meetings(x, all);
        sections(x, all);
        told(x, all);
        return all.toString();
    }

    private static void masses(BodySolids x, StringBuilder all) {
        try {
            for (int i = 0; i < 31; i++) {
                all.append(" mass ").append(x.mass(i));
            }
        } catch (IndexOutOfBoundsException e) {
            all.append(" and no more");
        }
    }

    private static void bounds(BodySolids x, StringBuilder all) {
        for (int i = 0; i < 31; i++) {
            try {
                for (int what = 0; what < 6; what++) {
                    all.append(" bound ").append(x.bound(i, what));
                }
            } catch (IllegalStateException e) {
                all.append(" empty");
            } catch (IndexOutOfBoundsException e) {
                all.append(" and no more");
                return;
            }
        }
    }

    private static void meetings(BodySolids x, StringBuilder all) {
        all.append(" clashes ").append(x.clashes());
        for (int k = 0; k < 6; k++) {
            all.append(" pair ").append(x.pair(k, 0)).append(x.pair(k, 1)).append(" breaks ").append(x.breaks(k));
        }
        try {
            for (int b = 1; b < 4; b++) {
                all.append(" clash ").append(x.clash(0, b)).append(x.clash(1, b));
            }
        } catch (IndexOutOfBoundsException e) {
            all.append(" and no more");
        }
    }

    private static void sections(BodySolids x, StringBuilder all) {
        for (long height : HEIGHTS) {
            for (int k = 0; k < 3; k++) {
                all.append(" section");
                for (int what = 0; what < 6; what += 1 + k) {
                    all.append(" ").append(x.section(height, k, what));
                }
            }
        }
    }

    private static void told(BodySolids x, StringBuilder all) {
        int body = x.body();
        all.append(" body ").append(body);
        try {
            all.append(" prism ").append(x.prism(body < 0 ? 1 : body, 0, 1)).append(x.mass(body < 0 ? 1 : body));
            for (int i = 0; i < 13; i++) {
                all.append(" box ").append(x.box(2, 0, 0, 0, 1, 1, 1));
            }
            for (int i = 0; i < 31; i += 1) {
                all.append(" place ").append(x.place(0, 0, 0, 0, 0));
            }
        } catch (IndexOutOfBoundsException e) {
            all.append(" and no more");
        }
        for (int i = 0; i < 11; i++) {
            all.append(" corner ").append(x.corner(0, i)).append(" keepOut ").append(x.keepOut(0, 0, 1, 1, 0, 0));
        }
    }
}
