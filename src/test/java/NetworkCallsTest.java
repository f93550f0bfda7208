/** Promises 2 to 6: setPath, setUp, lose, late, foreign. */
final class NetworkCallsTest {
    private NetworkCallsTest() {
    }

    public static void main(String[] args) {
        setPathTakesEffect();
        setPathKnowsWhatLeft();
        setPathRefuses();
        setUpLetsThroughOrNot();
        loseTellsTheNext();
        loseToClient();
        lateTellsTheNext();
        foreignFillsTheQueue();
        Checks.end("NetworkCallsTest");
    }

    /** The tick at which the server is established, when nothing else happens. */
    private static int tickOfServer(Tidewater x) {
        while (x.now() < 300 && x.state(1) == 0) {
            x.tick(1);
        }
        return x.now();
    }

    private static void setPathTakesEffect() {
        Tidewater x = new Tidewater();
        x.setPath(0, 1, 9, 30, 30);
        x.connect(-1);
        Checks.due("delay 1", tickOfServer(x), 2);
        x = new Tidewater();
        x.setPath(0, 30, 1, 1, 0);
        x.connect(-1);
        Checks.due("delay 30", tickOfServer(x), 31);
        x = new Tidewater();
        x.setPath(1, 30, 1, 1, 0);
        x.connect(-1);
        Checks.due("the other path", tickOfServer(x), 6);
        x = new Tidewater();
        Checks.due("room at first", x.foreign(0, 30), 8);
        x.tick(1);
        Checks.due("rate at first", x.path(0, 8), 6);
        x.setPath(0, 5, 5, 8, 6);
        x.tick(1);
        Checks.due("rate 5", x.path(0, 8), 1);
        x = new Tidewater();
        x.setPath(0, 5, 2, 3, 6);
        Checks.due("room 3", x.foreign(0, 30), 3);
        x.setPath(0, 5, 2, 30, 6);
        Checks.due("room 30", x.foreign(0, 30), 27);
        x.setPath(0, 5, 9, 1, 6);
        Checks.due("more than there is room for", x.foreign(0, 1), 0);
        x.tick(3);
        Checks.due("leaves by rate 9", x.path(0, 8), 3);
        markIs(0, 1, 1);
        markIs(1, 0, 1);
        markIs(2, 0, 0);
    }

    /** Two packets come to an empty queue in one tick. */
    private static void markIs(int mark, int first, int second) {
        Tidewater x = new Tidewater();
        x.setPath(0, 5, 2, 8, mark);
        x.write(0, 20);
        x.connect(0);
        x.tick(1);
        Checks.due("mark " + mark + " on an HELLO ahead", x.packet(0, 10), mark <= 1 ? 1 : 0);
        x = new Tidewater();
        x.setPath(0, 5, 2, 8, mark);
        x.connect(0);
        x.tick(1);
        x.write(0, 20);
        x.tick(1);
        Checks.due("packets", x.packets(), 2);
        Checks.due("mark " + mark + ", the first", x.packet(0, 10), first);
        Checks.due("mark " + mark + ", the second", x.packet(1, 10), second);
    }

    private static void setPathKnowsWhatLeft() {
        Tidewater x = new Tidewater();
        x.connect(-1);
        x.tick(1);
        x.setPath(0, 30, 2, 8, 6);
        Checks.due("what has left stays as it is", tickOfServer(x), 6);
        x.setPath(0, 1, 2, 8, 6);
        x.lose(0, true, 20);
        x.tick(29);
        Checks.due("what was put to the client too, ahead of it", x.state(0), 1);
        x.tick(1);
        Checks.due("what was put to the client too", x.state(0), 2);
        x = new Tidewater();
        x.connect(-1);
        x.setPath(0, 3, 2, 8, 6);
        Checks.due("what is in the queue goes by it", tickOfServer(x), 4);
    }

    private static void setPathRefuses() {
        Tidewater x = new Tidewater();
        x.foreign(0, 4);
        int[] wrongPaths = {-1, 2, Integer.MAX_VALUE, Integer.MIN_VALUE};
        for (int path : wrongPaths) {
            Checks.refused("setPath", x, Checks.INDEX, () -> x.setPath(path, 5, 2, 8, 6));
            Checks.refused("setPath, all wrong", x, Checks.INDEX, () -> x.setPath(path, 0, 0, 0, -1));
        }
        int[][] wrong = {{0, 2, 8, 6}, {31, 2, 8, 6}, {5, 0, 8, 6}, {5, 10, 8, 6}, {5, 2, 0, 6}, {5, 2, 31, 6},
            {5, 2, 8, -1}, {5, 2, 8, 31}, {Integer.MIN_VALUE, 2, 8, 6}, {5, 2, 8, Integer.MAX_VALUE}};
        for (int[] w : wrong) {
            Checks.refused("setPath", x, Checks.ARGUMENT, () -> x.setPath(0, w[0], w[1], w[2], w[3]));
            Checks.refused("setPath", x, Checks.ARGUMENT, () -> x.setPath(1, w[0], w[1], w[2], w[3]));
        }
        Checks.due("the room is as it was", x.foreign(0, 30), 4);
    }

    private static void setUpLetsThroughOrNot() {
        Tidewater x = new Tidewater();
        Checks.due("setUp(0, false)", x.setUp(0, false), true);
        Checks.due("setUp(0, false) again", x.setUp(0, false), false);
        Checks.due("setUp(1, true)", x.setUp(1, true), true);
        x.connect(-1);
        Checks.due("HELLO is gone", x.path(0, 8), 0);
        Checks.due("setUp(0, true)", x.setUp(0, true), false);
        Checks.due("the next HELLO", tickOfServer(x), 15);
        Tidewater y = new Tidewater();
        y.connect(-1);
        y.tick(1);
        y.setUp(0, false);
        Checks.due("what is under way goes on", tickOfServer(y), 6);
        y.tick(3);
        y.setUp(0, true);
        y.tick(1);
        y.setUp(0, false);
        y.tick(4);
        Checks.due("ACCEPT was gone", y.state(0), 1);
        Tidewater z = new Tidewater();
        z.connect(-1);
        z.setUp(0, false);
        Checks.due("what is in the queue goes on", tickOfServer(z), 6);
        Checks.refused("setUp", z, Checks.INDEX, () -> z.setUp(2, true));
        Checks.refused("setUp", z, Checks.INDEX, () -> z.setUp(-1, false));
        Checks.due("still down", z.setUp(0, true), false);
    }

    private static void loseTellsTheNext() {
        Tidewater x = new Tidewater();
        x.lose(0, true, 1);
        Checks.due("a foreign one is put", x.foreign(0, 1), 1);
        x.connect(-1);
        Checks.due("HELLO is gone", x.path(0, 8), 1);
        Checks.due("the next HELLO", tickOfServer(x), 15);
        x = new Tidewater();
        x.lose(0, true, 20);
        x.lose(0, true, 0);
        x.connect(-1);
        Checks.due("in place of what was told", tickOfServer(x), 6);
        x = new Tidewater();
        x.lose(1, true, 1);
        x.lose(0, false, 1);
        x.connect(-1);
        Checks.due("elsewhere", tickOfServer(x), 6);
        x = new Tidewater();
        x.setUp(0, false);
        x.lose(0, true, 1);
        x.connect(-1);
        x.setUp(0, true);
        Checks.due("gone by the path does not count", tickOfServer(x), 35);
        x = new Tidewater();
        x.foreign(0, 8);
        x.lose(0, true, 1);
        x.connect(-1);
        Checks.due("gone as told, not by the queue", tickOfServer(x), 15);
        Tidewater y = new Tidewater();
        y.lose(0, true, 1);
        Checks.refused("lose", y, Checks.INDEX, () -> y.lose(2, true, 21));
        Checks.refused("lose", y, Checks.INDEX, () -> y.lose(-1, false, 0));
        Checks.refused("lose", y, Checks.ARGUMENT, () -> y.lose(0, true, -1));
        Checks.refused("lose", y, Checks.ARGUMENT, () -> y.lose(0, true, 21));
        Checks.refused("lose", y, Checks.ARGUMENT, () -> y.lose(1, false, Integer.MAX_VALUE));
        y.connect(-1);
        Checks.due("what was told stays", tickOfServer(y), 15);
    }

    private static void loseToClient() {
        Tidewater x = new Tidewater();
        x.lose(0, false, 1);
        x.connect(-1);
        x.tick(11);
        Checks.due("the first ACCEPT is lost", x.state(0), 1);
        x.tick(8);
        Checks.due("ahead of the second one", x.state(0), 1);
        x.tick(1);
        Checks.due("the second one", x.state(0), 2);
        Checks.due("measured from the second hello", x.path(0, 6), 10);
        Tidewater y = new Tidewater();
        y.setUp(0, false);
        y.lose(0, false, 1);
        y.setUp(0, true);
        y.connect(-1);
        y.tick(5);
        y.setUp(0, false);
        y.tick(1);
        y.setUp(0, true);
        y.tick(24);
        Checks.due("a path that is down keeps what was told", y.state(0), 1);
    }

    private static void lateTellsTheNext() {
        Tidewater x = new Tidewater();
        x.late(0, 1, 50);
        x.foreign(0, 1);
        x.connect(-1);
        x.tick(20);
        Checks.due("the second HELLO was not late", x.state(1), 1);
        x = new Tidewater();
        x.late(0, 2, 3);
        x.connect(-1);
        Checks.due("late by 3", tickOfServer(x), 9);
        x = new Tidewater();
        x.late(0, 20, 50);
        x.late(0, 0, 50);
        x.connect(-1);
        Checks.due("in place of what was told", tickOfServer(x), 6);
        x = new Tidewater();
        x.late(1, 20, 50);
        x.connect(-1);
        Checks.due("the other path", tickOfServer(x), 6);
        x = new Tidewater();
        x.connect(-1);
        x.tick(1);
        x.late(0, 1, 50);
        Checks.due("one that has left is not late", tickOfServer(x), 6);
        x = new Tidewater();
        x.connect(-1);
        x.late(0, 1, 0);
        Checks.due("late by 0", tickOfServer(x), 6);
        Tidewater y = new Tidewater();
        y.late(0, 1, 4);
        Checks.refused("late", y, Checks.INDEX, () -> y.late(2, 21, 51));
        Checks.refused("late", y, Checks.INDEX, () -> y.late(-1, 0, 0));
        Checks.refused("late", y, Checks.ARGUMENT, () -> y.late(0, -1, 0));
        Checks.refused("late", y, Checks.ARGUMENT, () -> y.late(0, 21, 0));
        Checks.refused("late", y, Checks.ARGUMENT, () -> y.late(0, 0, -1));
        Checks.refused("late", y, Checks.ARGUMENT, () -> y.late(0, 0, 51));
        y.connect(-1);
        Checks.due("what was told stays", tickOfServer(y), 10);
    }

    private static void foreignFillsTheQueue() {
        Tidewater x = new Tidewater();
        x.setUp(1, false);
        Checks.due("on a path that is down", x.foreign(1, 3), 3);
        Checks.due("in the queue", x.path(1, 8), 3);
        Checks.due("as many as there is room for", x.foreign(1, 30), 5);
        Checks.due("none any more", x.foreign(1, 1), 0);
        Checks.due("the other queue", x.path(0, 8), 0);
        x.tick(4);
        Checks.due("they leave", x.path(1, 8), 0);
        x.tick(30);
        Checks.due("and are gone", x.count(4), 0);
        Tidewater y = new Tidewater();
        y.foreign(0, 8);
        y.write(0, 10);
        y.connect(0);
        Checks.due("HELLO found the queue full", y.path(0, 8), 8);
        y.tick(2);
        Checks.due("a packet of data is gone", y.packet(0, 6), 3);
        Checks.due("and not marked", y.packet(0, 10), 0);
        Tidewater z = new Tidewater();
        z.foreign(0, 1);
        Checks.refused("foreign", z, Checks.INDEX, () -> z.foreign(2, 0));
        Checks.refused("foreign", z, Checks.INDEX, () -> z.foreign(-1, 1));
        Checks.refused("foreign", z, Checks.ARGUMENT, () -> z.foreign(0, 0));
        Checks.refused("foreign", z, Checks.ARGUMENT, () -> z.foreign(0, 31));
        Checks.refused("foreign", z, Checks.ARGUMENT, () -> z.foreign(1, -5));
    }
}
