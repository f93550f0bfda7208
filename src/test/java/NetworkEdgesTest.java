/**
 * The edges that "The network" and the promises 2 to 6 name, each by a test of its own; the sentence stands above it.
 * Where nothing else is said, both paths have a delay of 4, a rate of 9, room for 30, a mark of 30.
 */
final class NetworkEdgesTest {
    private static final int UNDER_WAY = 0, TAKEN = 1, NOT_TAKEN = 2, GONE = 3;

    private NetworkEdgesTest() {
    }

    public static void main(String[] args) {
        for (int path = 0; path < 2; path++) {
            delayAtFirst(path);
            rateAtFirst(path);
            roomAtFirst(path);
            markAtFirst(path);
            upAtFirst(path);
        }
        goneIfDown();
        downAheadOfToldToBeLost();
        toldToBeLostAheadOfFull();
        fullIsTheRoom();
        roomForOne();
        roomBelowWhatIsThere();
        markedFromTheMarkOn();
        markOfNothing();
        markOfThirty();
        goneIsNotMarked();
        toTheClientIsNoQueue();
        toTheClientDownAheadOfToldToBeLost();
        toTheClientByTheDelayOfThen();
        toTheServerByTheDelayOfThen();
        toTheServerPathZeroFirst();
        toTheServerByLeavingNotByPath();
        toTheServerByLeavingNotByNumber();
        toTheClientByPutting();
        leavesByTheRate();
        foreignOnesCountForTheRate();
        foreignOnesAreGone();
        loseTwenty();
        loseTwentyToTheClient();
        loseNone();
        loseInPlaceOfWhatWasTold();
        lateTwenty();
        lateByFifty();
        lateNone();
        lateInPlaceOfWhatWasTold();
        foreignOnesDoNotMatterToLoseAndLate();
        foreignAsManyAsThereIsRoomFor();
        Checks.end("NetworkEdgesTest");
    }

    /** A path as it is at first, used alone; now is 11 for the path 0, 22 for the path 1. */
    private static Tidewater atFirst(int path) {
        Tidewater x = new Tidewater();
        x.connect(-1);
        Checks.until(x, 11);
        if (path == 1) {
            x.check(1);
            Checks.until(x, 22);
            x.use(1);
        }
        return x;
    }

    /** "each with a delay, 5 at first" */
    private static void delayAtFirst(int path) {
        Tidewater x = atFirst(path);
        int start = x.now();
        x.check(path);
        x.write(0, 1);
        Checks.until(x, start + 5);
        Checks.due("ahead of it", x.packet(0, 6), UNDER_WAY);
        Checks.until(x, start + 6);
        Checks.due("leaves at once, comes 5 later", x.packet(0, 6), TAKEN);
        Tidewater y = atFirst(0);
        y.check(1);
        Checks.until(y, 21);
        Checks.due("there and back, ahead of it", y.path(1, 7), 0);
        Checks.until(y, 22);
        Checks.due("there and back", y.path(1, 7), 1);
    }

    /** "a rate, 2 at first" */
    private static void rateAtFirst(int path) {
        Tidewater x = new Tidewater();
        x.foreign(path, 5);
        x.tick(1);
        Checks.due("2 have left", x.path(path, 8), 3);
        x.tick(1);
        Checks.due("4 have left", x.path(path, 8), 1);
        x.tick(1);
        Checks.due("fewer than the rate", x.path(path, 8), 0);
        x.tick(1);
        Checks.due("an empty queue", x.path(path, 8), 0);
    }

    /** "a queue for 8 packets at first" */
    private static void roomAtFirst(int path) {
        Tidewater x = new Tidewater();
        Checks.due("7", x.foreign(path, 7), 7);
        Checks.due("the eighth", x.foreign(path, 1), 1);
        Checks.due("no ninth", x.foreign(path, 1), 0);
        Checks.due("in the queue", x.path(path, 8), 8);
    }

    /** "and a mark, 6 at first" */
    private static void markAtFirst(int path) {
        for (int ahead = 4; ahead <= 8; ahead++) {
            Tidewater x = atFirst(path);
            x.foreign(path, ahead);
            x.write(0, 1);
            x.tick(1);
            Checks.due("the path", x.packet(0, 0), path);
            Checks.due("marked behind " + ahead, x.packet(0, 10), ahead == 6 || ahead == 7 ? 1 : 0);
            Checks.due("gone behind " + ahead, x.packet(0, 6), ahead == 8 ? GONE : UNDER_WAY);
        }
    }

    /** "both are up" */
    private static void upAtFirst(int path) {
        Tidewater x = new Tidewater();
        Checks.due("up", x.setUp(path, false), true);
        Checks.due("down", x.setUp(path, false), false);
        Checks.due("down", x.setUp(path, true), false);
        Checks.due("up", x.setUp(path, true), true);
    }

    /** "A packet that is put on a path to the server is gone, if the path is down" */
    private static void goneIfDown() {
        Tidewater x = Checks.established();
        x.setUp(0, false);
        x.check(0);
        Checks.due("no CHALLENGE", x.path(0, 8), 0);
        x.write(0, 10);
        x.tick(1);
        Checks.due("sent", x.packets(), 1);
        Checks.due("gone", x.packet(0, 6), GONE);
        x.setUp(0, true);
        x.setUp(1, false);
        x.write(0, 10);
        x.tick(1);
        Checks.due("the other path does not matter", x.packet(1, 6), UNDER_WAY);
    }

    /** "if the path is down; otherwise, if some are told to be lost, it is the next one of them, and gone" */
    private static void downAheadOfToldToBeLost() {
        Tidewater x = Checks.established();
        x.lose(0, true, 1);
        x.setUp(0, false);
        x.check(0);
        x.setUp(0, true);
        x.check(0);
        Checks.due("the told one is still to come", x.path(0, 8), 0);
        x.check(0);
        Checks.due("no other one", x.path(0, 8), 1);
    }

    /** "it is the next one of them, and gone; otherwise, if the queue is full, it is gone" */
    private static void toldToBeLostAheadOfFull() {
        Tidewater x = Checks.established();
        x.setPath(0, 4, 1, 2, 30);
        x.foreign(0, 2);
        x.lose(0, true, 1);
        x.check(0);
        x.tick(1);
        Checks.due("one has left", x.path(0, 8), 1);
        x.check(0);
        Checks.due("the told one was that of the full queue", x.path(0, 8), 2);
        x.check(0);
        Checks.due("full", x.path(0, 8), 2);
    }

    /** "if the queue is full, it is gone; otherwise it comes to the end of the queue" */
    private static void fullIsTheRoom() {
        Tidewater x = Checks.established();
        x.setPath(0, 4, 1, 5, 30);
        x.foreign(0, 4);
        x.write(0, 20);
        x.tick(1);
        Checks.due("the fifth one", x.packet(0, 6), UNDER_WAY);
        Checks.due("the sixth one", x.packet(1, 6), GONE);
        Checks.due("one has left", x.path(0, 8), 4);
        // the four ahead of it leave at 10 to 13, it leaves at 14
        Checks.until(x, 17);
        Checks.due("at the end of the queue", x.packet(0, 6), UNDER_WAY);
        x.tick(1);
        Checks.due("at the end of the queue", x.packet(0, 6), TAKEN);
    }

    /** "room: 1 to 30" */
    private static void roomForOne() {
        Tidewater x = Checks.established();
        x.setPath(0, 4, 9, 1, 30);
        x.write(0, 30);
        x.tick(1);
        Checks.due("the first one", x.packet(0, 6), UNDER_WAY);
        Checks.due("the second one", x.packet(1, 6), GONE);
        Checks.due("the third one", x.packet(2, 6), GONE);
        x.setPath(1, 4, 9, 30, 30);
        Checks.due("30", x.foreign(1, 30), 30);
        Checks.due("no more than 30", x.foreign(1, 1), 0);
    }

    /** "Sets a path; .. what is in the queue goes by it." */
    private static void roomBelowWhatIsThere() {
        Tidewater x = Checks.established();
        x.foreign(0, 8);
        x.setPath(0, 4, 1, 3, 30);
        Checks.due("all stay", x.path(0, 8), 8);
        Checks.due("more than full", x.foreign(0, 1), 0);
        x.check(0);
        Checks.due("more than full", x.path(0, 8), 8);
        x.tick(5);
        Checks.due("full", x.path(0, 8), 3);
        Checks.due("full", x.foreign(0, 1), 0);
        x.tick(1);
        Checks.due("room for one", x.foreign(0, 2), 1);
        x.setPath(0, 4, 1, 5, 30);
        Checks.due("room for two more", x.foreign(0, 9), 2);
    }

    /** "and is marked, if the queue had as many packets as the mark, or more" */
    private static void markedFromTheMarkOn() {
        for (int ahead = 2; ahead <= 4; ahead++) {
            Tidewater x = Checks.established();
            x.setPath(0, 4, 1, 30, 3);
            x.foreign(0, ahead);
            x.write(0, 1);
            x.tick(1);
            Checks.due("marked behind " + ahead, x.packet(0, 10), ahead >= 3 ? 1 : 0);
        }
    }

    /** "mark: 0 to 30", at 0 */
    private static void markOfNothing() {
        Tidewater x = Checks.established();
        x.setPath(0, 4, 9, 30, 0);
        x.write(0, 1);
        x.tick(1);
        Checks.due("marked in an empty queue", x.packet(0, 10), 1);
    }

    /** "mark: 0 to 30", at 30: a queue for 30 has at most 29 ahead of one that comes to it */
    private static void markOfThirty() {
        for (int mark = 29; mark <= 30; mark++) {
            Tidewater x = Checks.established();
            x.setPath(0, 4, 9, 30, mark);
            x.foreign(0, 29);
            x.write(0, 1);
            x.tick(1);
            Checks.due("the last one there is room for", x.packet(0, 6), UNDER_WAY);
            Checks.due("marked by " + mark, x.packet(0, 10), mark == 29 ? 1 : 0);
        }
    }

    /** "otherwise it comes to the end of the queue, and is marked": one that is gone is not */
    private static void goneIsNotMarked() {
        Tidewater x = Checks.established();
        x.setPath(0, 4, 9, 1, 0);
        x.foreign(0, 1);
        x.write(0, 1);
        x.tick(1);
        Checks.due("full", x.packet(0, 6) + 10 * x.packet(0, 10), GONE);
        x.lose(0, true, 1);
        x.write(0, 1);
        x.tick(1);
        Checks.due("told to be lost", x.packet(1, 6) + 10 * x.packet(1, 10), GONE);
        x.setUp(0, false);
        x.write(0, 1);
        x.tick(1);
        Checks.due("down", x.packet(2, 6) + 10 * x.packet(2, 10), GONE);
    }

    /** "One that is put on it to the client is gone, if ..; otherwise it arrives": no queue there */
    private static void toTheClientIsNoQueue() {
        Tidewater x = new Tidewater();
        x.setPath(0, 5, 1, 8, 0);
        x.connect(-1);
        Checks.until(x, 5);
        Checks.due("the queue is full", x.foreign(0, 30), 8);
        Checks.until(x, 11);
        Checks.due("ACCEPT came nevertheless", x.state(0), 2);
    }

    /** "is gone, if the path is down, or it is the next one told to be lost" */
    private static void toTheClientDownAheadOfToldToBeLost() {
        Tidewater x = Checks.established();
        x.lose(1, false, 1);
        x.check(1);
        Checks.until(x, 13);
        x.setUp(1, false);
        Checks.until(x, 14);
        x.setUp(1, true);
        x.check(1);
        Checks.until(x, 23);
        Checks.due("the told one was the second", x.path(1, 7), 0);
        x.check(1);
        Checks.until(x, 31);
        Checks.due("ahead of the third", x.path(1, 7), 0);
        Checks.until(x, 32);
        Checks.due("the third", x.path(1, 7), 1);
    }

    /** "otherwise it arrives by the delay later", of 1 and of 30, as it is when it is put */
    private static void toTheClientByTheDelayOfThen() {
        Tidewater x = Checks.established();
        x.write(0, 20);
        Checks.until(x, 25);
        x.setPath(0, 30, 9, 30, 30);
        x.read(0, 7);
        x.setPath(0, 1, 9, 30, 30);
        // down, so that what is put at 40 does not tell it ahead
        x.setUp(0, false);
        Checks.until(x, 54);
        Checks.due("ahead of 30 ticks", x.stream(0, 4), 40);
        Checks.until(x, 55);
        Checks.due("30 ticks later", x.stream(0, 4), 47);
        x.setUp(0, true);
        x.read(0, 1);
        Checks.due("at once: no", x.stream(0, 4), 47);
        Checks.until(x, 56);
        Checks.due("1 tick later", x.stream(0, 4), 48);
    }

    /** "what has left the queue stays as it is, what is in the queue goes by it", by a delay of 1 and of 30 */
    private static void toTheServerByTheDelayOfThen() {
        Tidewater x = Checks.established();
        x.setPath(0, 30, 9, 30, 30);
        x.write(0, 10);
        x.tick(1);
        x.setPath(0, 1, 9, 30, 30);
        x.write(1, 10);
        x.tick(1);
        Checks.due("ahead of it", x.packet(1, 6), UNDER_WAY);
        x.tick(1);
        Checks.due("1 tick behind 11", x.packet(1, 6), TAKEN);
        Checks.until(x, 39);
        Checks.due("ahead of it", x.packet(0, 6), UNDER_WAY);
        Checks.until(x, 40);
        Checks.due("30 ticks behind 10", x.packet(0, 6), TAKEN);
        Tidewater y = Checks.established();
        y.setPath(0, 30, 1, 30, 30);
        y.foreign(0, 1);
        y.write(0, 10);
        y.tick(1);
        Checks.due("in the queue", y.path(0, 8), 1);
        y.setPath(0, 2, 1, 30, 30);
        y.tick(3);
        Checks.due("2 ticks behind 11", y.packet(0, 6), TAKEN);
    }

    /**
     * "those of the path 0 first", "in the order in which they left the queues": the packet 0 waits on the path 1 until
     * the packet 1 leaves the path 0; so 1 is not just behind, and 0 is not, which are two acknowledgements.
     */
    private static void toTheServerPathZeroFirst() {
        Tidewater x = Checks.checked();
        x.setPath(1, 4, 1, 30, 30);
        x.foreign(1, 1);
        x.use(1);
        x.write(0, 10);
        x.tick(1);
        x.use(0);
        x.write(0, 10);
        Checks.until(x, 23);
        Checks.due("the paths", x.packet(0, 0) + 10 * x.packet(1, 0), 1);
        Checks.due("under way", x.packet(0, 6) + x.packet(1, 6), UNDER_WAY);
        x.tick(1);
        Checks.due("taken", x.packet(0, 6) + x.packet(1, 6), 2 * TAKEN);
        Checks.due("acknowledgements", x.count(4), 2);
    }

    /** "in the order in which they left the queues": 0 left the path 1 at 19, 1 left the path 0 at 20; both come at 24 */
    private static void toTheServerByLeavingNotByPath() {
        Tidewater x = Checks.checked();
        x.setPath(1, 5, 9, 30, 30);
        x.use(1);
        x.write(0, 10);
        x.tick(1);
        x.use(0);
        x.write(0, 10);
        Checks.until(x, 23);
        Checks.due("under way", x.packet(0, 6) + x.packet(1, 6), UNDER_WAY);
        x.tick(1);
        Checks.due("taken", x.packet(0, 6) + x.packet(1, 6), 2 * TAKEN);
        Checks.due("the second one, at once", x.count(4), 1);
    }

    /** "in the order in which they left the queues": 1 left at 20, 0 at 21, by a delay of 4 and of 3 */
    private static void toTheServerByLeavingNotByNumber() {
        Tidewater x = Checks.checked();
        x.setPath(1, 3, 1, 30, 30);
        x.foreign(1, 2);
        x.use(1);
        x.write(0, 10);
        x.tick(1);
        x.use(0);
        x.write(0, 10);
        Checks.until(x, 23);
        Checks.due("under way", x.packet(0, 6) + x.packet(1, 6), UNDER_WAY);
        x.tick(1);
        Checks.due("taken", x.packet(0, 6) + x.packet(1, 6), 2 * TAKEN);
        Checks.due("1 is not 0, 0 is not behind 1: both at once", x.count(4), 2);
    }

    /** "packets arrive at the client, in the order in which they were put": an ACK ahead of ACCEPT is not heard */
    private static void toTheClientByPutting() {
        Tidewater x = new Tidewater();
        x.setPath(0, 4, 9, 30, 30);
        x.write(0, 10);
        x.lose(0, false, 1);
        x.connect(0);
        Checks.until(x, 7);
        x.setPath(0, 30, 9, 30, 30);
        Checks.until(x, 9);
        Checks.due("ACK was put at 8", x.count(4), 1);
        x.setPath(0, 4, 9, 30, 30);
        Checks.until(x, 10);
        x.setPath(0, 24, 9, 30, 30);
        Checks.until(x, 37);
        Checks.due("ahead of both", x.state(0), 1);
        Checks.until(x, 38);
        Checks.due("ACCEPT came behind it", x.state(0), 2);
        Checks.due("ACK came ahead of it", x.packet(0, 5), 0);
        Tidewater y = new Tidewater();
        y.setPath(0, 4, 9, 30, 30);
        y.write(0, 10);
        y.connect(0);
        Checks.until(y, 7);
        y.setPath(0, 1, 9, 30, 30);
        Checks.until(y, 8);
        Checks.due("ahead of both", y.state(0) + 10 * y.packet(0, 5), 1);
        Checks.until(y, 9);
        Checks.due("ACCEPT, then ACK", y.state(0) + 10 * y.packet(0, 5), 12);
    }

    /** "rate: 1 to 9": "of each queue so many packets leave as the rate tells" */
    private static void leavesByTheRate() {
        Tidewater x = new Tidewater();
        x.setPath(0, 5, 9, 30, 6);
        x.setPath(1, 5, 1, 30, 6);
        x.foreign(0, 30);
        x.foreign(1, 30);
        int[] left = {21, 12, 3, 0, 0};
        for (int i = 0; i < 5; i++) {
            x.tick(1);
            Checks.due("by a rate of 9", x.path(0, 8), left[i]);
            Checks.due("by a rate of 1", x.path(1, 8), 29 - i);
        }
    }

    /** "of each queue so many packets leave as the rate tells": foreign ones among them */
    private static void foreignOnesCountForTheRate() {
        Tidewater x = new Tidewater();
        x.foreign(0, 2);
        x.connect(-1);
        Checks.until(x, 6);
        Checks.due("HELLO left at 2", x.state(1), 0);
        Checks.until(x, 7);
        Checks.due("HELLO left at 2", x.state(1), 1);
    }

    /** "foreign ones are gone": a server that lost its state would answer one that arrives */
    private static void foreignOnesAreGone() {
        Tidewater x = Checks.established();
        x.loseState();
        x.foreign(0, 9);
        x.foreign(1, 9);
        Checks.until(x, 40);
        Checks.due("no RESET", x.state(0), 2);
        x.check(0);
        Checks.until(x, 49);
        Checks.due("RESET", x.state(0), 5);
    }

    /** "many: 0 to 20": 20 are lost, the one behind them is not */
    private static void loseTwenty() {
        Tidewater x = Checks.established();
        x.lose(0, true, 20);
        for (int i = 0; i < 20; i++) {
            x.check(0);
        }
        Checks.due("all are gone", x.path(0, 8), 0);
        x.check(0);
        Checks.due("the next one is not", x.path(0, 8), 1);
        x.lose(1, true, 1);
        x.check(0);
        Checks.due("the other path does not matter", x.path(0, 8), 2);
        x.lose(0, false, 1);
        x.check(0);
        Checks.due("the other direction does not matter", x.path(0, 8), 3);
    }

    /** "many: 0 to 20", to the client: of 21 answers one arrives */
    private static void loseTwentyToTheClient() {
        for (int checks = 20; checks <= 21; checks++) {
            Tidewater x = Checks.established();
            x.lose(1, false, 20);
            for (int i = 0; i < checks; i++) {
                x.check(1);
            }
            Checks.until(x, 40);
            Checks.due("answers to " + checks, x.path(1, 7), checks == 21 ? 1 : 0);
        }
    }

    /** "many: 0 to 20", at 0 */
    private static void loseNone() {
        Tidewater x = Checks.established();
        x.lose(0, true, 0);
        x.lose(1, false, 0);
        x.check(0);
        Checks.due("none is lost", x.path(0, 8), 1);
        x.check(1);
        Checks.until(x, 18);
        Checks.due("none is lost to the client", x.path(1, 7), 1);
    }

    /** "in place of what was told before" */
    private static void loseInPlaceOfWhatWasTold() {
        Tidewater x = Checks.established();
        x.lose(0, true, 20);
        x.lose(0, true, 1);
        x.check(0);
        Checks.due("lost", x.path(0, 8), 0);
        x.check(0);
        Checks.due("1, not 20 nor 21", x.path(0, 8), 1);
        x.lose(0, true, 1);
        x.lose(0, true, 0);
        x.check(0);
        Checks.due("0, not 1", x.path(0, 8), 2);
        x.lose(1, false, 3);
        x.lose(1, false, 0);
        x.check(1);
        Checks.until(x, 18);
        Checks.due("0, not 3, to the client", x.path(1, 7), 1);
    }

    /** "many: 0 to 20": 20 are late, the one behind them is not, and comes together with the last of them */
    private static void lateTwenty() {
        Tidewater x = Checks.established();
        x.late(0, 20, 1);
        for (int i = 0; i <= 20; i++) {
            x.write(0, 1);
            x.tick(1);
        }
        Checks.due("packets", x.packets(), 21);
        Checks.due("sent at", x.packet(20, 1), 30);
        Checks.until(x, 33);
        Checks.due("the one ahead of them came at 33", x.packet(18, 6), TAKEN);
        Checks.due("the twentieth, late by 1", x.packet(19, 6), UNDER_WAY);
        Checks.due("the next one, not late", x.packet(20, 6), UNDER_WAY);
        Checks.until(x, 34);
        Checks.due("the twentieth", x.packet(19, 6), TAKEN);
        Checks.due("the next one", x.packet(20, 6), TAKEN);
    }

    /** "by: 0 to 50 ticks", at both ends; "so much more" than the delay */
    private static void lateByFifty() {
        Tidewater x = Checks.established();
        x.late(0, 1, 50);
        x.write(0, 10);
        x.tick(1);
        Checks.until(x, 63);
        Checks.due("ahead of 4 and 50 ticks", x.packet(0, 6), UNDER_WAY);
        Checks.until(x, 64);
        Checks.due("4 and 50 ticks behind 10", x.packet(0, 6), TAKEN);
        Tidewater y = Checks.established();
        y.late(0, 1, 0);
        y.write(0, 10);
        Checks.until(y, 14);
        Checks.due("late by 0", y.packet(0, 6), TAKEN);
    }

    /** "many: 0 to 20", at 0 */
    private static void lateNone() {
        Tidewater x = Checks.established();
        x.late(0, 0, 50);
        x.late(1, 20, 50);
        x.write(0, 10);
        Checks.until(x, 14);
        Checks.due("none is late", x.packet(0, 6), TAKEN);
    }

    /** "packets that leave the queue of a path next are late, in place of what was told before" */
    private static void lateInPlaceOfWhatWasTold() {
        Tidewater x = Checks.established();
        x.late(0, 20, 50);
        x.late(0, 1, 2);
        x.write(0, 20);
        Checks.until(x, 14);
        Checks.due("one is late", x.packet(0, 6), UNDER_WAY);
        Checks.due("one, not 20 nor 21", x.packet(1, 6), TAKEN);
        Checks.until(x, 16);
        Checks.due("by 2, not 50 nor 52", x.packet(0, 6), TAKEN);
        Tidewater y = Checks.established();
        y.write(0, 10);
        y.tick(1);
        y.late(0, 1, 50);
        Checks.until(y, 14);
        Checks.due("it had left", y.packet(0, 6), TAKEN);
        y.write(0, 10);
        Checks.until(y, 19);
        Checks.due("the next one that leaves", y.packet(1, 6), UNDER_WAY);
    }

    /** "foreign ones do not matter", twice */
    private static void foreignOnesDoNotMatterToLoseAndLate() {
        Tidewater x = Checks.established();
        x.lose(0, true, 1);
        x.late(0, 1, 3);
        Checks.due("put nevertheless", x.foreign(0, 5), 5);
        x.write(0, 20);
        x.tick(1);
        Checks.due("the first one is lost", x.packet(0, 6), GONE);
        Checks.until(x, 16);
        Checks.due("the second one is late", x.packet(1, 6), UNDER_WAY);
        Checks.until(x, 17);
        Checks.due("the second one is late", x.packet(1, 6), TAKEN);
    }

    /** "as many as there is room for; whether it is up does not matter"; "many: 1 to 30" */
    private static void foreignAsManyAsThereIsRoomFor() {
        Tidewater x = new Tidewater();
        x.setUp(0, false);
        x.setPath(0, 5, 2, 30, 6);
        Checks.due("1", x.foreign(0, 1), 1);
        Checks.due("29 of 30", x.foreign(0, 30), 29);
        Checks.due("none", x.foreign(0, 30), 0);
        Checks.due("in the queue", x.path(0, 8), 30);
        Checks.due("in the other queue", x.path(1, 8), 0);
        x.tick(1);
        Checks.due("they leave a path that is down", x.path(0, 8), 28);
    }
}
