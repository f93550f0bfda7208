/**
 * Two objects take the same calls, and one of them also takes calls that throw, ahead of each: whatever these
 * left inside it would show later on. Last, an object takes far more calls than the document promises, and
 * throws nothing but what it names.
 */
final class WrongCallsTest {
    private static final int[] WRONG = {-1, Integer.MIN_VALUE, Integer.MAX_VALUE};

    private long seed;

    private WrongCallsTest(long seed) {
        this.seed = seed;
    }

    public static void main(String[] args) {
        for (int run = 0; run < 12; run++) {
            new WrongCallsTest(run * 31L + 5).runTwins(run);
        }
        for (int run = 0; run < 6; run++) {
            new WrongCallsTest(run * 131L + 7).runFarTooLong();
        }
        Checks.end("WrongCallsTest");
    }

    private int any(int below) {
        seed = seed * 6364136223846793005L + 1442695040888963407L;
        return (int) ((seed >>> 33) % below);
    }

    private void runTwins(int run) {
        Tidewater x = new Tidewater();
        Tidewater twin = new Tidewater();
        for (int call = 0; call < 150; call++) {
            callWrongly(x);
            long before = seed;
            int got = answer(x);
            long after = seed;
            seed = before;
            Checks.due("run " + run + ", call " + call, got, answer(twin));
            seed = after;
            Checks.same("run " + run + ", call " + call, Checks.answers(x), Checks.answers(twin));
        }
        Checks.due("the run went on", twin.packets() > 0, true);
    }

    /** A call that may be refused as well: -1 then, which no call answers otherwise. */
    private int answer(Tidewater x) {
        try {
            return callAny(x, any(20));
        } catch (IllegalStateException e) {
            return -1;
        }
    }

    private int callAny(Tidewater x, int which) {
        switch (which) {
            case 0: x.connect(any(11) - 1); return 0;
            case 1: return x.read(any(4), 1 + any(200));
            case 2: x.lose(any(2), any(2) == 0, any(4)); return 0;
            case 3: x.late(any(2), any(4), any(20)); return 0;
            case 4: return x.foreign(any(2), 1 + any(8));
            case 5: return x.setWay(any(2), any(3));
            case 6: x.check(any(2)); return 0;
            case 7: return x.use(any(3));
            case 8: return x.changeKey();
            case 9: x.setPath(any(2), 1 + any(9), 1 + any(9), 1 + any(30), any(31)); return 0;
            case 10: return x.setUp(any(2), any(5) > 0) ? 1 : 0;
            case 11: return x.setCookies(any(2) == 0) ? 1 : 0;
            case 12: case 13: return x.write(any(4), 1 + any(30));
            default: return x.tick(1 + any(8));
        }
    }

    private static void callWrongly(Tidewater x) {
        Class<IndexOutOfBoundsException> index = IndexOutOfBoundsException.class;
        Class<IllegalArgumentException> argument = IllegalArgumentException.class;
        for (int w : WRONG) {
            Checks.thrown("setPath", index, () -> x.setPath(w, 9, 9, 9, 9));
            Checks.thrown("setPath", argument, () -> x.setPath(0, 9, 9, 9, w));
            Checks.thrown("setPath", argument, () -> x.setPath(1, 9, 9, w, 9));
            Checks.thrown("setUp", index, () -> x.setUp(w, false));
            Checks.thrown("lose", index, () -> x.lose(w, true, 20));
            Checks.thrown("lose", argument, () -> x.lose(0, true, w));
            Checks.thrown("lose", argument, () -> x.lose(1, false, w));
            Checks.thrown("late", index, () -> x.late(w, 20, 50));
            Checks.thrown("late", argument, () -> x.late(0, 20, w));
            Checks.thrown("late", argument, () -> x.late(0, w, 50));
            Checks.thrown("foreign", index, () -> x.foreign(w, 5));
            Checks.thrown("foreign", argument, () -> x.foreign(0, w));
            Checks.thrown("read", index, () -> x.read(w, 200));
            Checks.thrown("read", argument, () -> x.read(0, w));
            Checks.thrown("write", index, () -> x.write(w, 1));
            Checks.thrown("write", argument, () -> x.write(0, w));
            Checks.thrown("setWay", index, () -> x.setWay(w, 1));
            Checks.thrown("setWay", argument, () -> x.setWay(0, w));
            Checks.thrown("check", index, () -> x.check(w));
            Checks.thrown("use", argument, () -> x.use(w));
            Checks.thrown("tick", argument, () -> x.tick(w));
            Checks.thrown("connect", argument, () -> x.connect(w == -1 ? -2 : w));
        }
        if (x.state(0) != 2) {
            Checks.thrown("check", IllegalStateException.class, () -> x.check(0));
            Checks.thrown("close", IllegalStateException.class, () -> x.close());
            Checks.thrown("changeKey", IllegalStateException.class, () -> x.changeKey());
        }
        if (x.state(0) != 0) {
            Checks.thrown("connect", IllegalStateException.class, () -> x.connect(3));
        }
    }

    private void runFarTooLong() {
        Tidewater x = new Tidewater();
        x.connect(any(11) - 1);
        x.tick(20);
        for (int call = 0; call < 6000; call++) {
            int which = any(12);
            boolean isStill = which > 9;
            if (isStill && any(9) > 0) {
                which = 6;
            }
            int chosen = which;
            try {
                callAny(x, chosen == 11 ? 14 : chosen);
            } catch (IllegalStateException e) {
                Checks.due("only what may be refused", chosen == 0 || chosen > 5, true);
            }
        }
        Checks.due("it still tells", x.now() > 20, true);
        Checks.due("in flight", x.inFlightAnew(0), x.path(0, 2));
    }
}
