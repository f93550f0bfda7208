/** Long runs of mixed calls, each held against Plain after every call. */
final class MixedRunsTest {
    private static final int RUNS = 200;
    private static final int CALLS = 512;

    private long seed;
    private Tidewater x;
    private Plain y;
    private final StringBuilder told = new StringBuilder();
    private static final int[] seen = new int[64];

    private MixedRunsTest(long seed) {
        this.seed = seed;
        this.x = new Tidewater();
        this.y = new Plain();
    }

    public static void main(String[] args) {
        int runs = args.length > 0 ? Integer.parseInt(args[0]) : RUNS;
        int first = args.length > 1 ? Integer.parseInt(args[1]) : 0;
        for (int run = first; run < first + runs; run++) {
            if (!new MixedRunsTest(run * 7919L + 17).passes(run)) {
                System.out.println("run " + run + " differs");
                System.exit(1);
            }
        }
        if (args.length > 0) {
            System.out.println(java.util.Arrays.toString(seen));
        }
        Checks.due("a run met each case", seenAll(), true);
        Checks.end("MixedRunsTest");
    }

    /** Runs that never meet the rare cases would prove little. */
    private static boolean seenAll() {
        for (int i = 0; i < 16; i++) {
            if (seen[i] == 0) {
                System.out.println("case " + i + " was never met");
                return false;
            }
        }
        return true;
    }

    private int any(int below) {
        seed = seed * 6364136223846793005L + 1442695040888963407L;
        return (int) ((seed >>> 33) % below);
    }

    private boolean passes(int run) {
        int boldness = any(5) % 4;
        int kind = any(30);
        if (any(3) == 0) {
            Checks.due("setCookies", x.setCookies(true), false);
            y.asks = true;
        }
        for (int call = 0; call < CALLS; call++) {
            told.setLength(0);
            if (kind == 0) {
                idle();
            } else if (kind == 1) {
                grind(call);
            } else if (kind < 5) {
                quarrel();
            } else {
                step(boldness);
            }
            long[] got = Checks.answers(x);
            long[] want = y.answers();
            Checks.same("run " + run + ", call " + call + ": " + told, got, want);
            if (!java.util.Arrays.equals(got, want)) {
                return false;
            }
        }
        note();
        return true;
    }

    /** A client that never connects: what is said to it does nothing. */
    private void idle() {
        int which = any(8);
        if (which == 0) {
            tick(1 + any(10));
        } else if (which == 1) {
            write(any(4), 1 + any(60));
        } else if (which == 2) {
            foreign(any(2), 1 + any(30));
        } else if (which == 3) {
            setPath(any(2), 1 + any(30), 1 + any(9), 1 + any(30), any(31));
        } else if (which == 4) {
            check(any(2));
        } else if (which == 5) {
            use(any(3));
        } else if (which == 6) {
            close();
        } else {
            changeKey();
        }
    }

    /** A queue for one packet, and small packets, so that all numbers are used up. */
    private void grind(int call) {
        int stream = call / 2 % 4;
        if (call == 0) {
            setPath(0, 1 + 2 * any(2), 1, 1, 30);
        } else if (call == 1) {
            setWay(0, 2);
        } else if (call == 2) {
            connect(any(11) - 1);
        } else if (call % 2 == 0) {
            write(stream, 3);
        } else if (call % 8 == 3) {
            read(call / 8 % 4, 40);
        } else if (call % 16 == 5) {
            lose(0, true, 4);
        } else {
            tick(3 + any(3));
        }
    }

    /** A server that loses its state while the client says hello with early data. */
    private void quarrel() {
        int which = any(20);
        if (y.client == 0) {
            write(any(4), 1 + any(60));
            told.append(", ");
            connect(any(10));
        } else if (which < 2 && y.client == 1) {
            told.append("loseState");
            x.loseState();
            y.loseState();
        } else if (which < 4) {
            lose(0, any(2) == 0, any(4));
        } else if (which < 6) {
            late(0, any(3), any(51));
        } else if (which < 9) {
            setPath(0, 1 + any(30), 1 + any(9), 1 + any(30), any(31));
        } else if (which < 11) {
            write(any(4), 1 + any(20));
        } else if (which < 13) {
            read(any(4), 1 + any(20));
        } else if (which == 13) {
            setWay(0, any(3));
        } else {
            tick(1 + any(5));
        }
    }

    private void note() {
        for (int state = 0; state < 6; state++) {
            seen[state] += y.client == state ? 1 : 0;
        }
        seen[6] += y.falseLosses > 0 ? 1 : 0;
        seen[7] += y.serverKey > 2 ? 1 : 0;
        seen[8] += y.ways[1].harms > 0 ? 1 : 0;
        seen[9] += y.packets.size() == 400 ? 1 : 0;
        seen[10] += y.server == 2 ? 1 : 0;
        seen[11] += y.ways[0].rates.size() > 8 ? 1 : 0;
        seen[12] += y.used == 2 ? 1 : 0;
        seen[13] += y.consumed[0] == 200 ? 1 : 0;
        for (Plain.Data data : y.packets) {
            seen[14] += data.known == 4 ? 1 : 0;
            seen[15] += data.fate == 2 && data.early == 0 && data.key < y.serverKey ? 1 : 0;
        }
    }

    /** Boldness 0 and 1 let a run go far; 2 loses and delays much; 3 also loses the server's state. */
    private void step(int boldness) {
        int which = any(100);
        if (y.client == 0 && any(8) == 0) {
            connect(any(11) - 1);
        } else if (which < 38) {
            tick(1 + any(boldness == 1 ? 12 : 5));
        } else if (which < 50) {
            write(any(4), 1 + any(40));
        } else if (which < 64) {
            read(any(4), 1 + any(80));
        } else if (which < 68) {
            setPath(any(2), 1 + any(boldness < 2 ? 6 : 20), 1 + any(9), 1 + any(30), any(31));
        } else if (which < 74) {
            lose(any(2), any(3) > 0, any(boldness < 2 ? 3 : 12));
        } else if (which < 78) {
            late(any(2), any(5), any(boldness < 2 ? 20 : 51));
        } else if (which < 80) {
            foreign(any(2), 1 + any(boldness == 2 ? 30 : 6));
        } else if (which < 83) {
            setWay(any(2), any(3));
        } else if (which < 86) {
            check(any(2));
        } else if (which < 90) {
            use(any(3));
        } else if (which < 95) {
            changeKey();
        } else {
            rarely(boldness);
        }
    }

    private void rarely(int boldness) {
        int which = any(60);
        if (which < 3) {
            connect(any(11) - 1);
        } else if (which < 25) {
            boolean isUp = any(4) > 0;
            int path = any(2);
            told.append("setUp ").append(path).append(isUp);
            Checks.due("setUp", x.setUp(path, isUp), y.ways[path].up);
            y.ways[path].up = isUp;
        } else if (which < 35) {
            boolean asks = any(2) == 0;
            told.append("setCookies ").append(asks);
            Checks.due("setCookies", x.setCookies(asks), y.asks);
            y.asks = asks;
        } else if (which < 50 && boldness == 3) {
            told.append("loseState");
            x.loseState();
            y.loseState();
        } else if (which == 50) {
            close();
        } else {
            tick(1);
        }
    }

    private void tick(int ticks) {
        told.append("tick ").append(ticks);
        if (y.now + ticks > 2000) {
            Checks.thrown("tick", IllegalStateException.class, () -> x.tick(ticks));
            return;
        }
        for (int i = 0; i < ticks; i++) {
            y.tick();
        }
        Checks.due("tick", x.tick(ticks), y.now);
    }

    private void write(int stream, int many) {
        told.append("write ").append(stream).append(' ').append(many);
        if (y.written[stream] + many > 200) {
            Checks.thrown("write", IllegalStateException.class, () -> x.write(stream, many));
            return;
        }
        y.written[stream] += many;
        Checks.due("write", x.write(stream, many), y.written[stream]);
    }

    private void read(int stream, int many) {
        told.append("read ").append(stream).append(' ').append(many);
        Checks.due("read", x.read(stream, many), y.read(stream, many));
    }

    private void setPath(int path, int delay, int rate, int room, int mark) {
        told.append("setPath ").append(path);
        x.setPath(path, delay, rate, room, mark);
        y.ways[path].delay = delay;
        y.ways[path].rate = rate;
        y.ways[path].room = room;
        y.ways[path].mark = mark;
    }

    private void lose(int path, boolean isToServer, int many) {
        told.append("lose ").append(path).append(isToServer).append(many);
        x.lose(path, isToServer, many);
        if (isToServer) {
            y.ways[path].loseUp = many;
        } else {
            y.ways[path].loseDown = many;
        }
    }

    private void late(int path, int many, int by) {
        told.append("late ").append(path).append(' ').append(many).append(' ').append(by);
        x.late(path, many, by);
        y.ways[path].lateMany = many;
        y.ways[path].lateBy = by;
    }

    private void foreign(int path, int many) {
        told.append("foreign ").append(path).append(' ').append(many);
        Checks.due("foreign", x.foreign(path, many), y.foreign(path, many));
    }

    private void setWay(int path, int way) {
        told.append("setWay ").append(path).append(' ').append(way);
        Checks.due("setWay", x.setWay(path, way), y.ways[path].kind);
        y.ways[path].kind = way;
    }

    private void check(int path) {
        told.append("check ").append(path);
        if (y.client != 2) {
            Checks.thrown("check", IllegalStateException.class, () -> x.check(path));
            return;
        }
        x.check(path);
        y.toServer(Plain.item("CHALLENGE"), path);
    }

    private void use(int which) {
        told.append("use ").append(which);
        if (which > 0 && !y.ways[1].checked) {
            Checks.thrown("use", IllegalStateException.class, () -> x.use(which));
            return;
        }
        Checks.due("use", x.use(which), y.used);
        y.used = which;
    }

    private void changeKey() {
        told.append("changeKey");
        if (!y.canChangeKey()) {
            Checks.thrown("changeKey", IllegalStateException.class, () -> x.changeKey());
            return;
        }
        y.clientKey++;
        Checks.due("changeKey", x.changeKey(), y.clientKey);
    }

    private void connect(int ticket) {
        told.append("connect ").append(ticket);
        if (y.client != 0) {
            Checks.thrown("connect", IllegalStateException.class, () -> x.connect(ticket));
            return;
        }
        x.connect(ticket);
        y.connect(ticket);
    }

    private void close() {
        told.append("close");
        if (y.client != 2) {
            Checks.thrown("close", IllegalStateException.class, () -> x.close());
            return;
        }
        x.close();
        y.close();
    }
}
