/** Counts what is not as due, and ends the test by it. */
final class Checks {
    /** A call that may throw. */
    interface Call {
        void run();
    }

    static final Class<IndexOutOfBoundsException> INDEX = IndexOutOfBoundsException.class;
    static final Class<IllegalArgumentException> ARGUMENT = IllegalArgumentException.class;
    static final Class<IllegalStateException> STATE = IllegalStateException.class;

    private static int wrong = 0;
    private static int checked = 0;

    private Checks() {
    }

    /** Established at 9, with a measure of 9, and nothing lost; the path 1 is like the path 0. */
    static Tidewater established() {
        Tidewater x = new Tidewater();
        x.setPath(0, 4, 9, 30, 30);
        x.setPath(1, 4, 9, 30, 30);
        x.connect(-1);
        x.tick(9);
        due("established", x.state(0), 2);
        due("measured", x.path(0, 3), 72);
        return x;
    }

    /** Established at 9 like that, the path 1 checked at 18; what is used is the path 0 still. */
    static Tidewater checked() {
        Tidewater x = established();
        x.check(1);
        x.tick(9);
        due("checked", x.path(1, 7), 1);
        return x;
    }

    /** Lets ticks pass until now is that tick. */
    static void until(Tidewater x, int tick) {
        while (x.now() < tick) {
            x.tick(Math.min(50, tick - x.now()));
        }
    }

    static void due(String what, long got, long want) {
        checked++;
        if (got != want) {
            wrong++;
            System.out.println(what + " answered " + got + ", due is " + want);
        }
    }

    static void due(String what, boolean got, boolean want) {
        due(what, got ? 1 : 0, want ? 1 : 0);
    }

    /** The class must be the very one: IndexOutOfBoundsException and not a class below it. */
    static void thrown(String what, Class<? extends RuntimeException> want, Call call) {
        checked++;
        Class<?> got = null;
        try {
            call.run();
        } catch (RuntimeException e) {
            got = e.getClass();
        }
        if (got != want) {
            wrong++;
            System.out.println(what + " threw " + got + ", due is " + want);
        }
    }

    /** That the call throws, and that all that can be asked of the object is as before. */
    static void refused(String what, Tidewater x, Class<? extends RuntimeException> want, Call call) {
        long[] before = answers(x);
        thrown(what, want, call);
        same(what + " (what it left)", answers(x), before);
    }

    static void same(String what, long[] got, long[] want) {
        checked++;
        if (!java.util.Arrays.equals(got, want)) {
            wrong++;
            System.out.println(what + ": the answers differ");
            for (int i = 0; i < Math.min(got.length, want.length); i++) {
                if (got[i] != want[i]) {
                    System.out.println("  answer " + i + ": " + got[i] + ", due is " + want[i]);
                    break;
                }
            }
        }
    }

    /** All that an object tells, in one row. */
    static long[] answers(Tidewater x) {
        int packets = x.packets();
        long[] row = new long[66 + 11 * packets];
        int n = 0;
        row[n++] = x.now();
        row[n++] = x.credit();
        row[n++] = packets;
        for (int what = 0; what <= 4; what++) {
            row[n++] = x.state(what);
        }
        for (int path = 0; path < 2; path++) {
            for (int what = 0; what <= 8; what++) {
                row[n++] = x.path(path, what);
            }
            row[n++] = x.inFlightAnew(path);
        }
        for (int stream = 0; stream < 4; stream++) {
            for (int what = 0; what <= 6; what++) {
                row[n++] = x.stream(stream, what);
            }
            row[n++] = x.gotAnew(stream);
        }
        for (int what = 0; what <= 5; what++) {
            row[n++] = x.count(what);
        }
        for (int packet = 0; packet < packets; packet++) {
            for (int what = 0; what <= 10; what++) {
                row[n++] = x.packet(packet, what);
            }
        }
        return java.util.Arrays.copyOf(row, n);
    }

    static void end(String test) {
        System.out.println(test + ": " + checked + " checked, " + wrong + " wrong");
        if (wrong != 0) {
            System.exit(1);
        }
    }
}
