/**
 * What the promises 1 to 27 name of arguments: each end of each range is allowed, what is one beyond it is refused, as is
 * the most and the least that an int can be; a call that throws changes nothing; of several exceptions the one that is
 * named first is thrown. Last, the most calls, ticks and numbers that the document names.
 */
final class CallEdgesTest {
    /** A call by its one argument that is looked at. */
    private interface ByOne {
        void call(int argument);
    }

    private static final int MIN = Integer.MIN_VALUE;
    private static final int MAX = Integer.MAX_VALUE;

    private CallEdgesTest() {
    }

    public static void main(String[] args) {
        pathsOfCalls();
        streamsOfCalls();
        packetsOfCalls();
        setPathArguments();
        networkArguments();
        readAndWriteArguments();
        writeBeyondTheStream();
        connectArguments();
        setWayArguments();
        useArguments();
        tickArguments();
        tickToTheEnd();
        answersArguments();
        firstNamedOfIndexAndArgument();
        firstNamedOfIndexAndState();
        firstNamedOfArgumentAndState();
        whatIsTrueOrFalse();
        whatIsReturned();
        writeAtAnyTime();
        asManyCalls();
        askingChangesNothing();
        Checks.end("CallEdgesTest");
    }

    /** A client that has sent 3 packets, and has the path 1 checked. */
    private static Tidewater inUse() {
        Tidewater x = Checks.checked();
        x.write(0, 30);
        x.tick(1);
        return x;
    }

    private static void allowed(String what, int least, int most, ByOne call) {
        for (int i = least; i <= most; i++) {
            int argument = i;
            Checks.thrown(what + " " + i, null, () -> call.call(argument));
        }
    }

    private static void refused(String what, Tidewater x, Class<? extends RuntimeException> want, int least, int most,
            ByOne call) {
        int[] outside = {least - 1, most + 1, least - 2, MIN, MAX};
        for (int argument : outside) {
            Checks.refused(what + " " + argument, x, want, () -> call.call(argument));
        }
    }

    /** "A method that takes a path .. throws IndexOutOfBoundsException if there is no such one." */
    private static void pathsOfCalls() {
        Tidewater x = inUse();
        ByOne[] calls = {p -> x.setPath(p, 4, 9, 30, 30), p -> x.setUp(p, true), p -> x.lose(p, true, 0),
            p -> x.lose(p, false, 0), p -> x.late(p, 0, 0), p -> x.foreign(p, 1), p -> x.setWay(p, 0), p -> x.check(p),
            p -> x.path(p, 0), p -> x.path(p, 8), p -> x.inFlightAnew(p)};
        for (int i = 0; i < calls.length; i++) {
            refused("path of " + i, x, Checks.INDEX, 0, 1, calls[i]);
            allowed("path of " + i, 0, 1, calls[i]);
        }
    }

    /** "A method that takes .. a stream .. throws IndexOutOfBoundsException if there is no such one." */
    private static void streamsOfCalls() {
        Tidewater x = inUse();
        ByOne[] calls = {s -> x.read(s, 1), s -> x.write(s, 1), s -> x.stream(s, 0), s -> x.stream(s, 6),
            s -> x.gotAnew(s)};
        for (int i = 0; i < calls.length; i++) {
            refused("stream of " + i, x, Checks.INDEX, 0, 3, calls[i]);
            allowed("stream of " + i, 0, 3, calls[i]);
        }
    }

    /** "A method that takes .. a packet throws IndexOutOfBoundsException if there is no such one." */
    private static void packetsOfCalls() {
        Tidewater none = new Tidewater();
        Checks.refused("none at first", none, Checks.INDEX, () -> none.packet(0, 0));
        Checks.refused("none at first", none, Checks.INDEX, () -> none.packet(-1, 0));
        Tidewater x = inUse();
        Checks.due("packets", x.packets(), 3);
        refused("packet", x, Checks.INDEX, 0, 2, p -> x.packet(p, 0));
        refused("packet", x, Checks.INDEX, 0, 2, p -> x.packet(p, 10));
        allowed("packet", 0, 2, p -> x.packet(p, 0));
        Checks.refused("400", x, Checks.INDEX, () -> x.packet(400, 0));
        Checks.refused("399", x, Checks.INDEX, () -> x.packet(399, 0));
    }

    /** "delay: 1 to 30", "rate: 1 to 9", "room: 1 to 30", "mark: 0 to 30" */
    private static void setPathArguments() {
        Tidewater x = inUse();
        for (int i = 0; i < 2; i++) {
            int path = i;
            refused("delay", x, Checks.ARGUMENT, 1, 30, d -> x.setPath(path, d, 2, 8, 6));
            refused("rate", x, Checks.ARGUMENT, 1, 9, r -> x.setPath(path, 5, r, 8, 6));
            refused("room", x, Checks.ARGUMENT, 1, 30, r -> x.setPath(path, 5, 2, r, 6));
            refused("mark", x, Checks.ARGUMENT, 0, 30, m -> x.setPath(path, 5, 2, 8, m));
            allowed("delay", 1, 30, d -> x.setPath(path, d, 2, 8, 6));
            allowed("rate", 1, 9, r -> x.setPath(path, 5, r, 8, 6));
            allowed("room", 1, 30, r -> x.setPath(path, 5, 2, r, 6));
            allowed("mark", 0, 30, m -> x.setPath(path, 5, 2, 8, m));
        }
        Tidewater y = new Tidewater();
        y.setPath(0, 5, 2, 3, 6);
        Checks.refused("one of them wrong", y, Checks.ARGUMENT, () -> y.setPath(0, 7, 9, 30, 31));
        Checks.due("the room is as it was", y.foreign(0, 30), 3);
        y.tick(1);
        Checks.due("the rate is as it was", y.path(0, 8), 1);
    }

    /** lose "many: 0 to 20"; late "many: 0 to 20", "by: 0 to 50"; foreign "many: 1 to 30" */
    private static void networkArguments() {
        Tidewater x = inUse();
        refused("lose", x, Checks.ARGUMENT, 0, 20, m -> x.lose(0, true, m));
        refused("lose", x, Checks.ARGUMENT, 0, 20, m -> x.lose(1, false, m));
        refused("late, many", x, Checks.ARGUMENT, 0, 20, m -> x.late(0, m, 1));
        refused("late, by", x, Checks.ARGUMENT, 0, 50, b -> x.late(1, 1, b));
        refused("foreign", x, Checks.ARGUMENT, 1, 30, m -> x.foreign(0, m));
        allowed("lose", 0, 20, m -> x.lose(0, true, m));
        allowed("lose", 0, 20, m -> x.lose(1, false, m));
        allowed("late, many", 0, 20, m -> x.late(0, m, 1));
        allowed("late, by", 0, 50, b -> x.late(1, 1, b));
        allowed("foreign", 1, 30, m -> x.foreign(0, m));
    }

    /** read "many: 1 to 200"; write "many: 1 to 200" */
    private static void readAndWriteArguments() {
        Tidewater x = inUse();
        refused("read", x, Checks.ARGUMENT, 1, 200, m -> x.read(0, m));
        refused("write", x, Checks.ARGUMENT, 1, 200, m -> x.write(3, m));
        allowed("read", 1, 200, m -> x.read(0, m));
        allowed("write", 1, 200, m -> new Tidewater().write(3, m));
    }

    /** "if there would be more than 200" */
    private static void writeBeyondTheStream() {
        for (int first = 1; first <= 199; first += 99) {
            Tidewater x = new Tidewater();
            Checks.due("written", x.write(2, first), first);
            int rest = 200 - first;
            Checks.refused("one more than the rest", x, Checks.STATE, () -> x.write(2, rest + 1));
            Checks.refused("200 more", x, Checks.STATE, () -> x.write(2, 200));
            Checks.due("the rest", x.write(2, rest), 200);
            Checks.refused("one more", x, Checks.STATE, () -> x.write(2, 1));
            Checks.due("another stream", x.write(1, 200), 200);
        }
    }

    /** "ticket: 0 to 9 for early data; -1 for none"; "if it is not idle" */
    private static void connectArguments() {
        Tidewater x = new Tidewater();
        refused("connect", x, Checks.ARGUMENT, -1, 9, t -> x.connect(t));
        Checks.due("idle still", x.state(0), 0);
        allowed("connect", -1, 9, t -> new Tidewater().connect(t));
        x.connect(-1);
        Checks.refused("saying hello", x, Checks.STATE, () -> x.connect(-1));
        Tidewater y = Checks.established();
        Checks.refused("established", y, Checks.STATE, () -> y.connect(0));
        y.close();
        Checks.refused("closing", y, Checks.STATE, () -> y.connect(0));
    }

    /** "way: 0 by rounds, 1 by a cube, 2 by rates" */
    private static void setWayArguments() {
        Tidewater x = inUse();
        refused("way", x, Checks.ARGUMENT, 0, 2, w -> x.setWay(0, w));
        refused("way", x, Checks.ARGUMENT, 0, 2, w -> x.setWay(1, w));
        allowed("way", 0, 2, w -> x.setWay(0, w));
        Checks.due("the way before", x.setWay(0, 1), 2);
        Checks.due("of the other path", x.setWay(1, 1), 0);
    }

    /** "which: 0 or 1; 2 for both" */
    private static void useArguments() {
        Tidewater x = inUse();
        refused("which", x, Checks.ARGUMENT, 0, 2, w -> x.use(w));
        allowed("which", 0, 2, w -> x.use(w));
        Checks.due("what was used", x.use(0), 2);
    }

    /** "ticks: 1 to 50" */
    private static void tickArguments() {
        Tidewater x = inUse();
        refused("ticks", x, Checks.ARGUMENT, 1, 50, t -> x.tick(t));
        int now = x.now();
        for (int ticks = 1; ticks <= 50; ticks++) {
            now += ticks;
            Checks.due("now", x.tick(ticks), now);
        }
    }

    /** "if now would be above 2000" */
    private static void tickToTheEnd() {
        Tidewater x = Checks.established();
        Checks.until(x, 1951);
        Checks.refused("to 2001", x, Checks.STATE, () -> x.tick(50));
        Checks.due("to 2000", x.tick(49), 2000);
        Checks.refused("to 2001", x, Checks.STATE, () -> x.tick(1));
        Checks.refused("to 2050", x, Checks.STATE, () -> x.tick(50));
        Checks.due("now", x.now(), 2000);
        Tidewater y = new Tidewater();
        Checks.until(y, 1950);
        Checks.due("to 2000 at once", y.tick(50), 2000);
    }

    /** "what: 0 to 4", "0 to 8", "0 to 6", "0 to 10", "0 to 5" */
    private static void answersArguments() {
        Tidewater x = inUse();
        refused("state", x, Checks.ARGUMENT, 0, 4, w -> x.state(w));
        refused("path", x, Checks.ARGUMENT, 0, 8, w -> x.path(0, w));
        refused("path", x, Checks.ARGUMENT, 0, 8, w -> x.path(1, w));
        refused("stream", x, Checks.ARGUMENT, 0, 6, w -> x.stream(0, w));
        refused("stream", x, Checks.ARGUMENT, 0, 6, w -> x.stream(3, w));
        refused("packet", x, Checks.ARGUMENT, 0, 10, w -> x.packet(0, w));
        refused("packet", x, Checks.ARGUMENT, 0, 10, w -> x.packet(2, w));
        refused("count", x, Checks.ARGUMENT, 0, 5, w -> x.count(w));
        allowed("state", 0, 4, w -> x.state(w));
        allowed("path", 0, 8, w -> x.path(0, w));
        allowed("stream", 0, 6, w -> x.stream(3, w));
        allowed("packet", 0, 10, w -> x.packet(2, w));
        allowed("count", 0, 5, w -> x.count(w));
    }

    /** "If several exceptions apply, the one that is named first in the throws clause is thrown." */
    private static void firstNamedOfIndexAndArgument() {
        Tidewater x = inUse();
        int[] outside = {-1, 4, MIN, MAX};
        for (int w : outside) {
            Checks.refused("setPath", x, Checks.INDEX, () -> x.setPath(w, 0, 0, 0, -1));
            Checks.refused("lose", x, Checks.INDEX, () -> x.lose(w, true, 21));
            Checks.refused("late", x, Checks.INDEX, () -> x.late(w, 21, 51));
            Checks.refused("foreign", x, Checks.INDEX, () -> x.foreign(w, 0));
            Checks.refused("read", x, Checks.INDEX, () -> x.read(w, 0));
            Checks.refused("write", x, Checks.INDEX, () -> x.write(w, 201));
            Checks.refused("setWay", x, Checks.INDEX, () -> x.setWay(w, 3));
            Checks.refused("path", x, Checks.INDEX, () -> x.path(w, 9));
            Checks.refused("stream", x, Checks.INDEX, () -> x.stream(w, 7));
            Checks.refused("packet", x, Checks.INDEX, () -> x.packet(w, 11));
        }
    }

    /** "If several exceptions apply, the one that is named first in the throws clause is thrown." */
    private static void firstNamedOfIndexAndState() {
        Tidewater x = new Tidewater();
        Checks.refused("check, and idle", x, Checks.INDEX, () -> x.check(2));
        Checks.refused("check, and idle", x, Checks.INDEX, () -> x.check(-1));
        Checks.refused("check, idle alone", x, Checks.STATE, () -> x.check(1));
        x.write(0, 200);
        Checks.refused("write, and full", x, Checks.INDEX, () -> x.write(4, 1));
    }

    /** "If several exceptions apply, the one that is named first in the throws clause is thrown." */
    private static void firstNamedOfArgumentAndState() {
        Tidewater x = Checks.established();
        Checks.refused("connect, and not idle", x, Checks.ARGUMENT, () -> x.connect(10));
        Checks.refused("connect, and not idle", x, Checks.ARGUMENT, () -> x.connect(-2));
        Checks.refused("connect, not idle alone", x, Checks.STATE, () -> x.connect(9));
        x.write(0, 200);
        Checks.refused("write, and full", x, Checks.ARGUMENT, () -> x.write(0, 201));
        Checks.refused("write, and full", x, Checks.ARGUMENT, () -> x.write(0, 0));
        Checks.refused("write, and full", x, Checks.ARGUMENT, () -> x.write(0, MAX));
        Checks.refused("write, full alone", x, Checks.STATE, () -> x.write(0, 200));
        Checks.refused("use, and not checked", x, Checks.ARGUMENT, () -> x.use(3));
        Checks.until(x, 2000);
        Checks.refused("tick, and at the end", x, Checks.ARGUMENT, () -> x.tick(51));
        Checks.refused("tick, and at the end", x, Checks.ARGUMENT, () -> x.tick(0));
        Checks.refused("tick, and at the end", x, Checks.ARGUMENT, () -> x.tick(MAX));
        Checks.refused("tick, at the end alone", x, Checks.STATE, () -> x.tick(1));
    }

    /** setUp "Returns whether it was."; setCookies "Returns whether it did.", "at first it does not" */
    private static void whatIsTrueOrFalse() {
        Tidewater x = new Tidewater();
        boolean[] next = {true, false, false, true, true, false};
        boolean up = true;
        boolean asks = false;
        for (boolean is : next) {
            Checks.due("setUp", x.setUp(1, is), up);
            Checks.due("setCookies", x.setCookies(is), asks);
            up = is;
            asks = is;
        }
        Checks.due("the other path", x.setUp(0, true), true);
    }

    /** write "Returns how many were written on it then."; tick "Returns now."; packets "how many .. were sent" */
    private static void whatIsReturned() {
        Tidewater x = new Tidewater();
        Checks.due("write", x.write(0, 3), 3);
        Checks.due("write", x.write(0, 4), 7);
        Checks.due("write", x.write(1, 5), 5);
        Checks.due("tick", x.tick(2), 2);
        Checks.due("tick", x.tick(3), 5);
        Checks.due("now", x.now(), 5);
        Checks.due("packets", x.packets(), 0);
        x.connect(0);
        x.tick(1);
        Checks.due("packets", x.packets(), 2);
    }

    /** "Writes bytes on a stream; that is possible at any time." */
    private static void writeAtAnyTime() {
        Tidewater x = new Tidewater();
        Checks.due("idle", x.write(0, 1), 1);
        x.connect(-1);
        Checks.due("saying hello", x.write(0, 1), 2);
        Checks.until(x, 11);
        Checks.due("established", x.write(0, 1), 3);
        x.close();
        Checks.due("closing", x.write(0, 1), 4);
        Checks.until(x, 50);
        Checks.due("closed", x.state(0) * 10 + x.write(0, 1), 45);
        Tidewater y = Checks.established();
        y.loseState();
        y.check(0);
        Checks.until(y, 18);
        Checks.due("reset", y.state(0) * 10 + y.write(0, 1), 51);
    }

    /**
     * "An object is used for at most 512 calls": 440 of them read a byte each, and each puts an acknowledgement; up to
     * 100 of these are on their way at once.
     */
    private static void asManyCalls() {
        Tidewater x = new Tidewater();
        x.setPath(0, 1, 9, 30, 30);
        x.connect(-1);
        int calls = 2;
        for (int stream = 0; stream < 4; stream++) {
            x.write(stream, 110 + 20 * stream);
            calls++;
        }
        int reads = 0;
        while (reads < 440 && calls < 480) {
            x.tick(40);
            calls++;
            for (int stream = 0; stream < 4; stream++) {
                int read = 1;
                for (int i = 0; i < 40 && reads < 440 && read == 1; i++) {
                    read = x.read(stream, 1);
                    reads += read;
                    calls++;
                }
            }
        }
        Checks.due("bytes that were read", reads, 440);
        x.tick(2);
        Checks.due("acknowledgements, more than", x.count(4) > 440, true);
        Checks.due("credit of all", x.credit(), 540);
        for (int stream = 0; stream < 4; stream++) {
            Checks.due("credit", x.stream(stream, 4), 40 + x.stream(stream, 6));
        }
        Checks.due("calls", calls + 5 <= 512, true);
    }

    /** "what there is; nothing from here on changes anything": one of two is asked for everything behind each call */
    private static void askingChangesNothing() {
        Tidewater asked = new Tidewater();
        Tidewater other = new Tidewater();
        for (int call = 0; call < 120; call++) {
            callOf(asked, call);
            callOf(other, call);
            Checks.same("asked twice", Checks.answers(asked), Checks.answers(asked));
        }
        Checks.due("losses that were none", other.count(1) > 0, true);
        Checks.same("asked at the end alone", Checks.answers(other), Checks.answers(asked));
    }

    private static void callOf(Tidewater x, int call) {
        if (call == 0) {
            x.connect(3);
        } else if (call % 5 == 1) {
            x.write(call % 4, 20 - call / 10);
        } else if (call % 10 == 2) {
            x.late(0, 1, 12);
        } else if (call % 10 == 7) {
            x.lose(0, call % 20 == 7, 1);
        } else if (call % 5 == 3) {
            x.read(call % 4, 50);
        } else {
            x.tick(6);
        }
    }
}
