/** Promises 18 to 27: what the object tells of itself. */
final class AnswersTest {
    private static final int[] OUTSIDE = {-1, Integer.MIN_VALUE, Integer.MAX_VALUE};

    private AnswersTest() {
    }

    public static void main(String[] args) {
        tellsOfNow();
        tellsOfTheEnds();
        tellsOfPaths();
        tellsOfStreams();
        tellsOfPackets();
        tellsOfProbesAndEarlyOnes();
        countsAll();
        findsAnew();
        refuses();
        Checks.end("AnswersTest");
    }

    private static void tellsOfNow() {
        Tidewater x = new Tidewater();
        Checks.due("now()", x.now(), 0);
        x.tick(7);
        Checks.due("now()", x.now(), 7);
        x.connect(-1);
        Checks.due("now()", x.now(), 7);
        Checks.due("now()", x.tick(50), x.now());
    }

    private static void tellsOfTheEnds() {
        Tidewater x = new Tidewater();
        Checks.due("idle", x.state(0), 0);
        x.connect(-1);
        Checks.due("saying hello", x.state(0), 1);
        x.tick(6);
        Checks.due("the server established", x.state(1), 1);
        x.tick(5);
        Checks.due("established", x.state(0), 2);
        x.close();
        Checks.due("closing", x.state(0), 3);
        x.tick(6);
        Checks.due("draining", x.state(1), 2);
        x.loseState();
        Checks.due("it lost its state", x.state(1), 3);
        x.tick(24);
        Checks.due("closed", x.state(0), 4);
        Checks.due("what is used", x.state(4), 0);
    }

    private static void tellsOfPaths() {
        Tidewater x = Checks.established();
        long[] first = {160, 999999, 0, 72, 18, 9, 9, 1, 0};
        for (int what = 0; what <= 8; what++) {
            Checks.due("path(0, " + what + ")", x.path(0, what), first[what]);
        }
        x.write(0, 20);
        x.setPath(0, 6, 1, 30, 30);
        x.foreign(0, 3);
        x.tick(1);
        Checks.due("in flight", x.path(0, 2), 2);
        Checks.due("in the queue", x.path(0, 8), 4);
        // they leave at 13 and 14, and come at 19 and 20: acknowledged at 20, which is heard at 26
        x.tick(15);
        Checks.due("ahead of the acknowledgement", x.path(0, 6), 9);
        x.tick(1);
        Checks.due("the latest measure", x.path(0, 6), 16);
        Checks.due("the least one", x.path(0, 5), 9);
        Checks.due("the spread", x.path(0, 4), 18 + 7 - 4);
        Checks.due("the time", x.path(0, 3), 72 + 16 - 9);
        Checks.due("the window", x.path(0, 0), 192);
        Checks.due("the bound", x.path(0, 1), 999999);
        Checks.due("in flight", x.path(0, 2), 0);
    }

    private static void tellsOfStreams() {
        Tidewater x = Checks.established();
        x.write(2, 55);
        x.lose(0, true, 1);
        x.tick(6);
        Checks.due("written", x.stream(2, 0), 55);
        Checks.due("sent", x.stream(2, 1), 40);
        Checks.due("acknowledged", x.stream(2, 2), 0);
        Checks.due("lost", x.stream(2, 3), 0);
        Checks.due("credit", x.stream(2, 4), 40);
        Checks.due("got in order", x.stream(2, 5), 0);
        // 1 is not just behind the first one: acknowledged at 14, heard at 18; 2 and 3 at 15, heard at 19
        x.tick(3);
        Checks.due("acknowledged", x.stream(2, 2), 10);
        x.tick(1);
        Checks.due("acknowledged", x.stream(2, 2), 30);
        Checks.due("lost by order, and sent at once", x.stream(2, 3), 0);
        Checks.due("a loss", x.count(0), 1);
        Checks.due("packets", x.packets(), 5);
        x.tick(4);
        Checks.due("got in order", x.stream(2, 5), 40);
        Checks.due("read", x.read(2, 13), 13);
        Checks.due("were read", x.stream(2, 6), 13);
        x.tick(4);
        Checks.due("credit", x.stream(2, 4), 53);
        Checks.due("credit of all", x.credit(), 113);
        Tidewater y = Checks.established();
        y.write(0, 40);
        y.lose(0, true, 1);
        y.tick(6);
        y.close();
        y.tick(4);
        Checks.due("closing: it is lost and not sent", y.stream(0, 3), 10);
    }

    private static void tellsOfPackets() {
        Tidewater x = Checks.established();
        x.write(0, 14);
        x.write(3, 3);
        x.lose(0, true, 1);
        x.setPath(0, 4, 9, 30, 1);
        x.tick(1);
        Checks.due("packets()", x.packets(), 3);
        long[] first = {0, 10, 0, 0, 10, 0, 3, 0, 0, 0, 0};
        long[] second = {0, 10, 3, 0, 3, 0, 0, 0, 0, 0, 0};
        long[] third = {0, 10, 0, 10, 4, 0, 0, 0, 0, 0, 1};
        for (int what = 0; what <= 10; what++) {
            Checks.due("packet(0, " + what + ")", x.packet(0, what), first[what]);
            Checks.due("packet(1, " + what + ")", x.packet(1, what), second[what]);
            Checks.due("packet(2, " + what + ")", x.packet(2, what), third[what]);
        }
        x.tick(4);
        Checks.due("taken", x.packet(1, 6), 1);
        x.tick(4);
        Checks.due("acknowledged", x.packet(1, 5), 1);
        Checks.due("one behind it, by 8 ticks: not lost by order nor by time", x.packet(0, 5), 0);
        x.tick(1);
        Checks.due("by 9 times 8, divided by 8, ticks: lost by time", x.packet(0, 5), 2);
    }

    private static void tellsOfProbesAndEarlyOnes() {
        Tidewater x = new Tidewater();
        x.setPath(0, 4, 9, 30, 30);
        x.write(1, 12);
        x.setCookies(true);
        x.connect(4);
        // both come ahead of the HELLO with a cookie of 9; ACCEPT at 17 makes the time 64, the spread 16
        x.tick(27);
        Checks.due("ahead of 8, 16 and 3 ticks, packets", x.packets(), 2);
        Checks.due("established since", x.state(0), 2);
        x.tick(1);
        Checks.due("a probe, packets", x.packets(), 3);
        long[] probe = {0, 28, 1, 0, 10, 0, 0, 0, 1, 0, 0};
        for (int what = 0; what <= 10; what++) {
            Checks.due("packet(2, " + what + ")", x.packet(2, what), probe[what]);
        }
        Checks.due("packet(0, 6)", x.packet(0, 6), 2);
        Checks.due("packet(0, 9)", x.packet(0, 9), 1);
        Tidewater y = new Tidewater();
        y.write(0, 10);
        y.lose(0, true, 20);
        y.connect(0);
        y.tick(33);
        Checks.due("ahead of the probe", y.packets(), 1);
        y.tick(1);
        Checks.due("an early probe", y.packet(1, 8) + 2 * y.packet(1, 9), 3);
        Checks.due("gone", y.packet(1, 6), 3);
    }

    private static void countsAll() {
        Tidewater x = Checks.established();
        x.write(0, 40);
        x.late(0, 1, 7);
        x.tick(1);
        // 1 comes at 14, out of order, 2 with it, and 3 at 15, as the second one; heard at 18 and 19; 0 comes at 21
        x.tick(3);
        Checks.due("acknowledgements", x.count(4), 0);
        x.tick(1);
        Checks.due("acknowledgements", x.count(4), 1);
        x.tick(1);
        Checks.due("acknowledgements", x.count(4), 2);
        Checks.due("hellos", x.count(3), 1);
        x.tick(3);
        Checks.due("losses", x.count(0), 0);
        x.tick(1);
        Checks.due("losses", x.count(0), 1);
        Checks.due("what the client knows of it", x.packet(0, 5), 2);
        Checks.due("harms that counted", x.count(5), 1);
        Checks.due("losses that were none", x.count(1), 0);
        int window = x.path(0, 0);
        Checks.due("half of it", window, 104);
        Checks.due("the bound", x.path(0, 1), 104);
        x.tick(6);
        Checks.due("losses that were none", x.count(1), 1);
        Checks.due("lost and acknowledged then", x.packet(0, 5), 3);
        Checks.due("the harm stays counted", x.count(5), 1);
        Checks.due("the window ahead of it", x.path(0, 0), 208);
        Checks.due("the bound ahead of it", x.path(0, 1), 999999);
        Checks.due("probes", x.count(2), 0);
    }

    private static void findsAnew() {
        Tidewater x = Checks.established();
        x.check(1);
        x.tick(9);
        x.use(2);
        x.write(0, 35);
        x.write(1, 25);
        x.lose(1, true, 1);
        x.tick(1);
        Checks.due("in flight on path 0", x.inFlightAnew(0), x.path(0, 2));
        Checks.due("in flight on path 1", x.inFlightAnew(1), x.path(1, 2));
        Checks.due("in flight", x.inFlightAnew(0) + x.inFlightAnew(1), x.packets());
        x.tick(5);
        boolean isGap = false;
        for (int i = 0; i < 40; i++) {
            for (int stream = 0; stream < 4; stream++) {
                Checks.due("got in order", x.gotAnew(stream), x.stream(stream, 5));
            }
            isGap |= x.gotAnew(1) == 0 && x.stream(1, 2) > 0;
            x.tick(1);
        }
        Checks.due("a gap was met", isGap, true);
        Checks.due("all got", x.gotAnew(0) + x.gotAnew(1), 60);
        Checks.due("none in flight", x.inFlightAnew(0) + x.inFlightAnew(1), 0);
        x.loseState();
        Checks.due("what was got stays", x.gotAnew(0), 35);
    }

    private static void refuses() {
        Tidewater x = Checks.established();
        x.write(0, 20);
        x.tick(1);
        for (int outside : OUTSIDE) {
            refusesOutside(x, outside);
        }
        Checks.refused("state", x, Checks.ARGUMENT, () -> x.state(5));
        Checks.refused("path", x, Checks.ARGUMENT, () -> x.path(1, 9));
        Checks.refused("stream", x, Checks.ARGUMENT, () -> x.stream(3, 7));
        Checks.refused("packet", x, Checks.ARGUMENT, () -> x.packet(1, 11));
        Checks.refused("count", x, Checks.ARGUMENT, () -> x.count(6));
        Checks.refused("path", x, Checks.INDEX, () -> x.path(2, 9));
        Checks.refused("stream", x, Checks.INDEX, () -> x.stream(4, 7));
        Checks.refused("packet", x, Checks.INDEX, () -> x.packet(2, 11));
        Checks.refused("packet", x, Checks.INDEX, () -> x.packet(2, 0));
        Checks.refused("packet", x, Checks.INDEX, () -> x.packet(400, 0));
        Checks.refused("inFlightAnew", x, Checks.INDEX, () -> x.inFlightAnew(2));
        Checks.refused("gotAnew", x, Checks.INDEX, () -> x.gotAnew(4));
        Checks.refused("packet", new Tidewater(), Checks.INDEX, () -> new Tidewater().packet(0, 0));
    }

    private static void refusesOutside(Tidewater x, int outside) {
        Checks.refused("state", x, Checks.ARGUMENT, () -> x.state(outside));
        Checks.refused("path", x, Checks.INDEX, () -> x.path(outside, 0));
        Checks.refused("path", x, Checks.INDEX, () -> x.path(outside, outside));
        Checks.refused("path", x, Checks.ARGUMENT, () -> x.path(0, outside));
        Checks.refused("stream", x, Checks.INDEX, () -> x.stream(outside, 0));
        Checks.refused("stream", x, Checks.INDEX, () -> x.stream(outside, outside));
        Checks.refused("stream", x, Checks.ARGUMENT, () -> x.stream(0, outside));
        Checks.refused("packet", x, Checks.INDEX, () -> x.packet(outside, 0));
        Checks.refused("packet", x, Checks.INDEX, () -> x.packet(outside, outside));
        Checks.refused("packet", x, Checks.ARGUMENT, () -> x.packet(0, outside));
        Checks.refused("count", x, Checks.ARGUMENT, () -> x.count(outside));
        Checks.refused("inFlightAnew", x, Checks.INDEX, () -> x.inFlightAnew(outside));
        Checks.refused("gotAnew", x, Checks.INDEX, () -> x.gotAnew(outside));
    }
}
