/** Promises 10 to 17: connect, write, setWay, check, use, changeKey, close, tick. */
final class ClientCallsTest {
    private ClientCallsTest() {
    }

    public static void main(String[] args) {
        connectSaysHello();
        connectSaysItAgain();
        connectWithTickets();
        connectRefuses();
        writes();
        setsWays();
        checksPaths();
        usesPaths();
        usesBoth();
        changesKeys();
        keepsTheKeyBefore();
        closes();
        closesOnThePathThatIsUsed();
        ticks();
        Checks.end("ClientCallsTest");
    }

    private static void connectSaysHello() {
        Tidewater x = new Tidewater();
        x.connect(-1);
        Checks.due("says hello", x.state(0), 1);
        Checks.due("hellos", x.count(3), 1);
        Checks.due("HELLO in the queue", x.path(0, 8), 1);
        Checks.due("none on the other path", x.path(1, 8), 0);
        x.write(0, 50);
        x.tick(5);
        Checks.due("sends nothing without early data", x.packets(), 0);
        x.tick(1);
        Checks.due("the server", x.state(1), 1);
    }

    private static void connectSaysItAgain() {
        Tidewater x = new Tidewater();
        x.setUp(0, false);
        x.tick(3);
        x.connect(9);
        int[] due = {13, 33, 73, 153, 313, 633, 1273};
        int next = 0;
        while (x.now() < 1300) {
            x.tick(1);
            if (next < due.length && x.now() == due[next]) {
                next++;
            }
            Checks.due("hellos at " + x.now(), x.count(3), 1 + next);
        }
    }

    private static void connectWithTickets() {
        for (int ticket = 0; ticket <= 9; ticket++) {
            Tidewater x = new Tidewater();
            x.write(0, 10);
            x.connect(ticket);
            x.tick(7);
            Checks.due("early", x.packet(0, 9), 1);
            Checks.due("sent at", x.packet(0, 1), 1);
            Checks.due("taken", x.packet(0, 6), 1);
            x.tick(4);
            Checks.due("established", x.state(0), 2);
            Checks.due("not refused", x.packet(0, 5), 0);
        }
    }

    private static void connectRefuses() {
        Tidewater x = new Tidewater();
        Checks.refused("connect", x, Checks.ARGUMENT, () -> x.connect(-2));
        Checks.refused("connect", x, Checks.ARGUMENT, () -> x.connect(10));
        Checks.refused("connect", x, Checks.ARGUMENT, () -> x.connect(Integer.MIN_VALUE));
        x.connect(-1);
        Checks.refused("connect", x, Checks.STATE, () -> x.connect(-1));
        Checks.refused("connect", x, Checks.STATE, () -> x.connect(5));
        Checks.refused("connect", x, Checks.ARGUMENT, () -> x.connect(10));
        x.write(0, 10);
        x.tick(11);
        Checks.due("no early data by a call that threw", x.packet(0, 9), 0);
        Checks.refused("connect", x, Checks.STATE, () -> x.connect(-1));
    }

    private static void writes() {
        Tidewater x = new Tidewater();
        Checks.due("write", x.write(0, 1), 1);
        Checks.due("write", x.write(0, 199), 200);
        Checks.due("write", x.write(3, 200), 200);
        Checks.due("write", x.write(1, 150), 150);
        Checks.refused("write", x, Checks.INDEX, () -> x.write(4, 0));
        Checks.refused("write", x, Checks.INDEX, () -> x.write(-1, 201));
        Checks.refused("write", x, Checks.ARGUMENT, () -> x.write(0, 0));
        Checks.refused("write", x, Checks.ARGUMENT, () -> x.write(0, 201));
        Checks.refused("write", x, Checks.ARGUMENT, () -> x.write(2, -1));
        Checks.refused("write", x, Checks.ARGUMENT, () -> x.write(2, Integer.MAX_VALUE));
        Checks.refused("write", x, Checks.STATE, () -> x.write(0, 1));
        Checks.refused("write", x, Checks.STATE, () -> x.write(1, 51));
        Checks.due("write", x.write(1, 50), 200);
        Tidewater y = Checks.established();
        y.close();
        Checks.due("while closing", y.write(0, 5), 5);
        y.tick(30);
        Checks.due("when closed", y.write(0, 5), 10);
        Checks.due("sends none of it", y.packets(), 0);
    }

    private static void setsWays() {
        Tidewater x = Checks.established();
        Checks.due("setWay", x.setWay(0, 2), 0);
        Checks.due("setWay", x.setWay(0, 1), 2);
        Checks.due("setWay", x.setWay(0, 0), 1);
        Checks.due("setWay", x.setWay(1, 1), 0);
        Checks.due("the window stays", x.path(0, 0), 160);
        Checks.refused("setWay", x, Checks.INDEX, () -> x.setWay(2, 3));
        Checks.refused("setWay", x, Checks.INDEX, () -> x.setWay(-1, 0));
        Checks.refused("setWay", x, Checks.ARGUMENT, () -> x.setWay(0, 3));
        Checks.refused("setWay", x, Checks.ARGUMENT, () -> x.setWay(1, -1));
        Checks.due("setWay", x.setWay(1, 0), 1);
        x.setWay(0, 2);
        x.write(0, 10);
        x.tick(12);
        Checks.due("acknowledged", x.packet(0, 5), 1);
        Checks.due("one packet in 11 ticks, but at least 64", x.path(0, 0), 64);
    }

    private static void checksPaths() {
        Tidewater x = Checks.established();
        Checks.due("path 1", x.path(1, 7), 0);
        x.check(1);
        Checks.due("CHALLENGE in the queue", x.path(1, 8), 1);
        x.tick(8);
        Checks.due("ahead of RESPONSE", x.path(1, 7), 0);
        x.tick(1);
        Checks.due("RESPONSE came", x.path(1, 7), 1);
        Checks.due("RESPONSE is no measure", x.path(1, 3), 80);
        x.check(0);
        x.tick(9);
        Checks.due("path 0 stays checked", x.path(0, 7), 1);
        Tidewater y = new Tidewater();
        Checks.refused("check", y, Checks.INDEX, () -> y.check(2));
        Checks.refused("check", y, Checks.INDEX, () -> y.check(-1));
        Checks.refused("check", y, Checks.STATE, () -> y.check(0));
        y.connect(-1);
        Checks.refused("check", y, Checks.STATE, () -> y.check(1));
        Tidewater z = Checks.established();
        z.lose(1, false, 1);
        z.check(1);
        z.tick(20);
        Checks.due("RESPONSE was lost", z.path(1, 7), 0);
        z.check(1);
        z.tick(1);
        z.close();
        z.tick(8);
        Checks.due("RESPONSE came while closing", z.path(1, 7), 1);
        Checks.refused("check", z, Checks.STATE, () -> z.check(1));
        Checks.refused("check", z, Checks.INDEX, () -> z.check(2));
    }

    private static void usesPaths() {
        Tidewater x = Checks.established();
        Checks.refused("use", x, Checks.ARGUMENT, () -> x.use(3));
        Checks.refused("use", x, Checks.ARGUMENT, () -> x.use(-1));
        Checks.refused("use", x, Checks.STATE, () -> x.use(1));
        Checks.refused("use", x, Checks.STATE, () -> x.use(2));
        Checks.due("use(0)", x.use(0), 0);
        x.check(1);
        x.tick(9);
        Checks.due("use(1)", x.use(1), 0);
        Checks.due("what is used", x.state(4), 1);
        x.write(0, 30);
        x.tick(2);
        Checks.due("on path 1", x.packet(0, 0), 1);
        Checks.due("in flight there", x.path(1, 2), 3);
        Checks.due("none on path 0", x.path(0, 2), 0);
        Checks.due("use(2)", x.use(2), 1);
        Checks.due("use(0)", x.use(0), 2);
        Checks.due("use(0)", x.use(0), 0);
        x.tick(10);
        Checks.due("acknowledged by path 1", x.packet(0, 5), 1);
        Checks.due("a measure of path 1", x.path(1, 6), 8);
        Checks.due("its window grew", x.path(1, 0), 192);
        Checks.due("none of path 0", x.path(0, 6), 9);
        Checks.due("use when closed", new Tidewater().use(0), 0);
    }

    private static void usesBoth() {
        Tidewater x = Checks.established();
        x.check(1);
        x.tick(9);
        x.use(2);
        x.write(0, 40);
        x.tick(1);
        int[] path = {0, 1, 0, 1};
        for (int i = 0; i < 4; i++) {
            Checks.due("fewer in flight, or the lower one", x.packet(i, 0), path[i]);
        }
        x.close();
        Checks.due("CLOSE on the lower one", x.path(0, 8), 1);
    }

    private static void changesKeys() {
        Tidewater x = Checks.established();
        Checks.refused("changeKey", x, Checks.STATE, () -> x.changeKey());
        x.write(0, 10);
        x.tick(11);
        Checks.due("not acknowledged yet", x.packet(0, 5), 0);
        Checks.refused("changeKey", x, Checks.STATE, () -> x.changeKey());
        x.tick(1);
        Checks.due("acknowledged", x.packet(0, 5), 1);
        Checks.due("changeKey", x.changeKey(), 1);
        Checks.due("the key of the client", x.state(2), 1);
        Checks.due("the key of the server", x.state(3), 0);
        Checks.refused("changeKey", x, Checks.STATE, () -> x.changeKey());
        x.write(1, 10);
        x.tick(1);
        Checks.due("the key of the packet", x.packet(1, 7), 1);
        Checks.due("of the one before", x.packet(0, 7), 0);
        x.tick(3);
        Checks.due("ahead of it", x.state(3), 0);
        x.tick(1);
        Checks.due("the key of the server", x.state(3), 1);
        x.tick(7);
        Checks.due("changeKey", x.changeKey(), 2);
        x.close();
        Checks.refused("changeKey", x, Checks.STATE, () -> x.changeKey());
        Tidewater y = new Tidewater();
        Checks.refused("changeKey", y, Checks.STATE, () -> y.changeKey());
    }

    /** A packet with the key 1 comes at some tick; one with the key 0 comes so many ticks after it. */
    private static void keepsTheKeyBefore() {
        for (int after = 6; after <= 8; after++) {
            Tidewater x = Checks.established();
            x.write(0, 10);
            x.tick(12);
            x.write(1, 10);
            x.late(0, 1, after + 1);
            x.tick(1);
            x.changeKey();
            x.write(2, 10);
            x.tick(1);
            Checks.due("key", x.packet(1, 7), 0);
            Checks.due("key", x.packet(2, 7), 1);
            x.tick(4);
            Checks.due("the key of the server", x.state(3), 1);
            x.tick(after - 1);
            Checks.due("under way", x.packet(1, 6), 0);
            int acks = x.count(4);
            x.tick(1);
            Checks.due("with the key before, after " + after, x.packet(1, 6), after <= 7 ? 1 : 2);
            Checks.due("got", x.stream(1, 5), after <= 7 ? 10 : 0);
            Checks.due("acknowledged at once", x.count(4) - acks, after <= 7 ? 1 : 0);
        }
    }

    private static void closes() {
        Tidewater x = new Tidewater();
        Checks.refused("close", x, Checks.STATE, () -> x.close());
        x.connect(-1);
        Checks.refused("close", x, Checks.STATE, () -> x.close());
        Tidewater y = Checks.established();
        y.write(0, 40);
        y.tick(1);
        y.close();
        Checks.due("closing", y.state(0), 3);
        Checks.refused("close", y, Checks.STATE, () -> y.close());
        y.write(0, 40);
        y.tick(4);
        Checks.due("ahead of CLOSE", y.state(1), 1);
        y.tick(1);
        Checks.due("CLOSE came", y.state(1), 2);
        Checks.due("what came ahead of it was taken", y.stream(0, 5), 30);
        Checks.due("what came behind it was not", y.packets(), 3);
        y.tick(3);
        Checks.due("acknowledged while closing", y.packet(1, 5), 1);
        Checks.due("the last one was not", y.packet(2, 5), 0);
        y.tick(21);
        Checks.due("no probes while closing", y.count(2), 0);
        Checks.due("29 ticks later", y.state(0), 3);
        y.tick(1);
        Checks.due("30 ticks later", y.state(0), 4);
        y.tick(50);
        Checks.due("none sent", y.packets(), 3);
        Checks.refused("close", y, Checks.STATE, () -> y.close());
        Tidewater z = Checks.established();
        z.lose(0, true, 1);
        z.close();
        z.tick(20);
        Checks.due("CLOSE was lost", z.state(1), 1);
        z.tick(10);
        Checks.due("closed nevertheless", z.state(0), 4);
    }

    private static void closesOnThePathThatIsUsed() {
        Tidewater x = Checks.established();
        x.check(1);
        x.tick(9);
        x.use(1);
        x.close();
        Checks.due("CLOSE on path 1", x.path(1, 8), 1);
        Checks.due("none on path 0", x.path(0, 8), 0);
    }

    private static void ticks() {
        Tidewater x = new Tidewater();
        Checks.refused("tick", x, Checks.ARGUMENT, () -> x.tick(0));
        Checks.refused("tick", x, Checks.ARGUMENT, () -> x.tick(51));
        Checks.refused("tick", x, Checks.ARGUMENT, () -> x.tick(-1));
        Checks.refused("tick", x, Checks.ARGUMENT, () -> x.tick(Integer.MAX_VALUE));
        Checks.due("tick(1)", x.tick(1), 1);
        Checks.due("tick(50)", x.tick(50), 51);
        while (x.now() < 1951) {
            x.tick(50);
        }
        Checks.refused("tick", x, Checks.STATE, () -> x.tick(50));
        Checks.refused("tick", x, Checks.ARGUMENT, () -> x.tick(51));
        Checks.due("tick(49)", x.tick(49), 2000);
        Checks.refused("tick", x, Checks.STATE, () -> x.tick(1));
        Checks.due("now()", x.now(), 2000);
    }
}
