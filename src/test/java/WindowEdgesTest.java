/** The edges that "Windows" names, each by a test of its own, in numbers found by hand; the sentence stands above it. */
final class WindowEdgesTest {
    private static final int ROUNDS = 0, CUBE = 1, RATES = 2;

    private WindowEdgesTest() {
    }

    public static void main(String[] args) {
        sixteenMoreBelowTheBound();
        notSixteenMoreAtTheBound();
        atLeastOneMoreByRounds();
        halfRoundedDown();
        halfButAtLeastThirtyTwo();
        sevenTenthsRoundedDown();
        sevenTenthsButAtLeastThirtyTwo();
        aimTowardZero();
        atLeastOneMoreByACube();
        ratesButAtLeastSixtyFour();
        lastEightRates();
        ratesOfWhatWasInFlight();
        harmByRates();
        takenBackByRates();
        ratesOfALeastMeasureOfNothing();
        harmOfWhatWasSentAhead();
        harmOfTheFirstOneSentSince();
        harmsOfEachPath();
        harmByMarksOfTheGreatest();
        takenBack();
        notTakenBackBehindAnotherHarm();
        notTakenBackByAnotherPacket();
        takenBackWithAGreaterWindow();
        takenBackWithAGreaterBound();
        fullWindow();
        windowOfNoWholePackets();
        fullWindowOfTheUsedPath();
        fullWindowOfEarlyData();
        perTickRoundedUp();
        perTickAtLeastTwo();
        perTickByATimeOfNothing();
        perTickOfEachPath();
        fewerInFlightOrTheLowerOne();
        aimFarBehindTheHarm();
        leastThirdPower();
        ratesOfASlowPath();
        windowsOfTwoPackets();
        perTickOfNoWholePackets();
        perTickByASmallTime();
        Checks.end("WindowEdgesTest");
    }

    private static void isWindow(Tidewater x, int path, int window, int bound) {
        Checks.due("the window", x.path(path, 0), window);
        Checks.due("the bound", x.path(path, 1), bound);
    }

    /** Writes so many bytes and waits until the packet that has them is acknowledged. */
    private static void sendOne(Tidewater x, int stream, int bytes) {
        int packet = x.packets();
        x.write(stream, bytes);
        for (int i = 0; i < 30 && (x.packets() <= packet || x.packet(packet, 5) == 0); i++) {
            x.tick(1);
        }
        Checks.due("acknowledged", x.packet(packet, 5), 1);
    }

    private static void mark(Tidewater x, int delay, int mark) {
        x.setPath(0, delay, 9, 30, mark);
    }

    /** Half of 176 at 21, by a mark. */
    private static Tidewater harmedByAMark() {
        Tidewater x = Checks.established();
        mark(x, 4, 0);
        x.write(0, 10);
        x.tick(1);
        mark(x, 4, 30);
        Checks.until(x, 20);
        isWindow(x, 0, 160, 999999);
        x.tick(1);
        isWindow(x, 0, 88, 88);
        return x;
    }

    /** "the window is 16 more, if it is less than the bound": at 64, at 80, not at 96; the bound is 88 */
    private static void sixteenMoreBelowTheBound() {
        Tidewater x = harmedByAMark();
        x.setWay(0, RATES);
        sendOne(x, 1, 10);
        isWindow(x, 0, 64, 88);
        x.setWay(0, ROUNDS);
        sendOne(x, 1, 10);
        isWindow(x, 0, 80, 88);
        sendOne(x, 1, 10);
        isWindow(x, 0, 96, 88);
        sendOne(x, 1, 10);
        isWindow(x, 0, 98, 88);
    }

    /** "if it is less than the bound; otherwise: by rounds 256 divided by the window more": 88 is not less than 88 */
    private static void notSixteenMoreAtTheBound() {
        Tidewater x = harmedByAMark();
        sendOne(x, 1, 10);
        isWindow(x, 0, 90, 88);
        Tidewater y = Checks.established();
        y.setWay(0, CUBE);
        sendOne(y, 1, 10);
        isWindow(y, 0, 176, 999999);
    }

    /** 24 packets of one byte make the window 544, one more 560, of which a mark makes 280. */
    private static Tidewater wide() {
        Tidewater x = Checks.established();
        mark(x, 1, 30);
        for (int i = 0; i < 8; i++) {
            x.write(0, 1);
            x.write(1, 1);
            x.write(2, 1);
            x.tick(1);
        }
        Checks.until(x, 40);
        Checks.due("packets", x.packets(), 24);
        isWindow(x, 0, 544, 999999);
        mark(x, 1, 0);
        x.write(0, 1);
        x.tick(1);
        mark(x, 1, 30);
        Checks.until(x, 50);
        isWindow(x, 0, 280, 280);
        return x;
    }

    /** "256 divided by the window more, but at least 1" */
    private static void atLeastOneMoreByRounds() {
        Tidewater x = wide();
        sendOne(x, 0, 1);
        isWindow(x, 0, 281, 280);
        sendOne(x, 1, 1);
        isWindow(x, 0, 282, 280);
    }

    /** "by rounds the window is half of it .., rounded down": of 283, by two marks that are told at once */
    private static void halfRoundedDown() {
        Tidewater x = wide();
        sendOne(x, 0, 1);
        mark(x, 1, 0);
        x.write(0, 1);
        x.write(1, 1);
        x.tick(1);
        mark(x, 1, 30);
        x.tick(2);
        Checks.due("both are acknowledged", x.packet(26, 5) + x.packet(27, 5), 2);
        isWindow(x, 0, 141, 141);
    }

    /** "but at least 32, and the bound is that": half of 176, 90, 50, 40 */
    private static Tidewater halfButAtLeastThirtyTwo() {
        Tidewater x = Checks.established();
        mark(x, 4, 0);
        int[] window = {88, 45, 32, 32};
        for (int i = 0; i < 4; i++) {
            Checks.until(x, 9 + 20 * i);
            sendOne(x, i, 10);
            isWindow(x, 0, window[i], window[i]);
            Checks.due("harms", x.count(5), i + 1);
        }
        return x;
    }

    /** A harm by a mark 20 ticks behind another, the last one at 61. */
    private static Tidewater harmedByACube(int harms) {
        Tidewater x = Checks.established();
        x.setWay(0, CUBE);
        mark(x, 4, 0);
        int[] window = {123, 91, 68, 53, 43, 37, 35};
        for (int i = 0; i < harms; i++) {
            Checks.until(x, 9 + 20 * i);
            x.write(i % 4, 10);
            Checks.until(x, 21 + 20 * i);
            isWindow(x, 0, window[i], window[i]);
        }
        return x;
    }

    /**
     * "by a cube 7 tenths, rounded down": of 176, 130, 98, 76, 62, 54, 51. Ahead of it the aims are 178, 133, 103, 84,
     * 73, 70, by k of 15, 14, 13, 12, 11, 10, where 2000 by 125 is 16, and 162 by 10 is 16 too.
     */
    private static void sevenTenthsRoundedDown() {
        harmedByACube(7);
    }

    /** "by a cube 7 tenths, rounded down, but at least 32": of 44, which is 12 more than 32, by an aim of 56 */
    private static void sevenTenthsButAtLeastThirtyTwo() {
        Tidewater x = halfButAtLeastThirtyTwo();
        x.setWay(0, CUBE);
        Checks.until(x, 81);
        isWindow(x, 0, 32, 32);
        mark(x, 4, 30);
        Checks.until(x, 89);
        x.write(0, 10);
        Checks.until(x, 101);
        isWindow(x, 0, 44, 32);
        Tidewater y = halfButAtLeastThirtyTwo();
        y.setWay(0, CUBE);
        Checks.until(y, 89);
        y.write(0, 10);
        Checks.until(y, 101);
        isWindow(y, 0, 32, 32);
        Checks.due("harms", y.count(5), 5);
    }

    /** "divided by 125, toward 0": 12 less 13, its third power, twice, is -2: the aim is 98, not 97 */
    private static void aimTowardZero() {
        Tidewater x = harmedByACube(3);
        mark(x, 4, 30);
        x.write(3, 10);
        Checks.until(x, 72);
        isWindow(x, 0, 68, 68);
        x.tick(1);
        // 16 times 30, by 68, is 7
        isWindow(x, 0, 75, 68);
    }

    /** "16 times the aim less it, divided by it, but at least 1": 0 ticks behind the harm, the aim is 192 less 65 */
    private static void atLeastOneMoreByACube() {
        Tidewater x = Checks.established();
        x.setWay(0, CUBE);
        mark(x, 4, 0);
        x.late(0, 3, 1);
        x.write(0, 40);
        x.tick(1);
        mark(x, 4, 30);
        Checks.until(x, 18);
        isWindow(x, 0, 160, 999999);
        x.tick(1);
        Checks.due("both ACKs came", x.packet(1, 5) + x.packet(3, 5), 2);
        Checks.due("a harm", x.count(5), 1);
        // 7 tenths of 192 is 134, and 1 more for 2 and for 3 each
        isWindow(x, 0, 136, 134);
    }

    /** "but at least 64" */
    private static void ratesButAtLeastSixtyFour() {
        Tidewater x = Checks.established();
        x.setWay(0, RATES);
        sendOne(x, 0, 10);
        isWindow(x, 0, 64, 999999);
    }

    /** "the greatest of the last 8 rates": the greatest one is 16, of the packet 7, and others are 2 at most */
    private static void lastEightRates() {
        Tidewater x = Checks.established();
        x.setWay(0, RATES);
        x.write(0, 40);
        x.write(1, 40);
        int[] window = {160, 72, 192, 256};
        for (int i = 0; i < 4; i++) {
            Checks.until(x, 17 + i);
            isWindow(x, 0, window[i], 999999);
        }
        Checks.due("all are acknowledged", x.path(0, 2), 0);
        for (int i = 1; i <= 8; i++) {
            sendOne(x, 2 + i % 2, 1);
            isWindow(x, 0, i < 8 ? 256 : 64, 999999);
        }
    }

    /**
     * "16 times the packets that were acknowledged on the path, while they were in flight, since this one was sent, it
     * included": 5 is sent at 23; 0, which was lost, is acknowledged at 24, 4 and 5 at 25.
     */
    private static void ratesOfWhatWasInFlight() {
        Tidewater x = Checks.established();
        x.setWay(0, RATES);
        x.late(0, 1, 9);
        x.write(0, 40);
        Checks.until(x, 22);
        Checks.due("0 is lost", x.packet(0, 5), 2);
        mark(x, 1, 30);
        x.write(1, 10);
        Checks.until(x, 24);
        Checks.due("lost no more", x.packet(0, 5), 3);
        Checks.due("sent at", x.packet(5, 1), 23);
        x.tick(1);
        Checks.due("acknowledged", x.packet(4, 5) + x.packet(5, 5), 2);
        // 2 packets in 2 ticks make a rate of 16, the least measure is 8
        isWindow(x, 0, 256, 999999);
    }

    /** "by rates nothing": a harm that counts, and window and bound stay; "what they were ahead of that is kept" */
    private static void harmByRates() {
        Tidewater x = Checks.established();
        x.setWay(0, RATES);
        x.late(0, 1, 20);
        x.write(0, 40);
        Checks.until(x, 19);
        Checks.due("a loss", x.count(0), 1);
        Checks.due("a harm", x.count(5), 1);
        isWindow(x, 0, 96, 999999);
        sendOne(x, 1, 1);
        isWindow(x, 0, 96, 999999);
        Checks.until(x, 37);
        int window = x.path(0, 0);
        x.setWay(0, ROUNDS);
        x.tick(1);
        Checks.due("none that was lost", x.packet(0, 5), 3);
        isWindow(x, 0, Math.max(96, window), 999999);
    }

    /**
     * "If a packet by which a harm counted turns out to be none that was lost .., window and bound are again as they
     * were ahead of it": by rates too. 0 is lost by time at 19, with a window of 176; the rate of 2 makes it 64.
     */
    private static void takenBackByRates() {
        Tidewater x = Checks.established();
        x.late(0, 1, 30);
        x.write(0, 20);
        Checks.until(x, 18);
        isWindow(x, 0, 176, 999999);
        x.setWay(0, RATES);
        x.tick(1);
        Checks.due("0 is lost", x.packet(0, 5), 2);
        Checks.due("a harm", x.count(5), 1);
        isWindow(x, 0, 176, 999999);
        Checks.until(x, 30);
        Checks.due("2 is acknowledged", x.packet(2, 5), 1);
        isWindow(x, 0, 64, 999999);
        Checks.until(x, 47);
        isWindow(x, 0, 64, 999999);
        x.tick(1);
        Checks.due("none that was lost", x.packet(0, 5), 3);
        isWindow(x, 0, 176, 999999);
    }

    /** "2 times the greatest of the last 8 rates, times the least measure, but at least 64": the rate is 64, times 0 */
    private static void ratesOfALeastMeasureOfNothing() {
        Tidewater x = measureOfNothing();
        x.setPath(0, 1, 9, 30, 30);
        x.setWay(0, RATES);
        writeAll(x);
        Checks.until(x, 15);
        Checks.due("8 are acknowledged", x.packet(7, 5) * 10 + x.packet(8, 5), 10);
        Checks.due("the latest measure", x.path(0, 6), 2);
        Checks.due("the least measure", x.path(0, 5), 0);
        isWindow(x, 0, 64, 999999);
    }

    /** 0 is gone and lost at 19, a harm; 4 was sent at 18, 5 at 19. */
    private static Tidewater harmed(int lateBy) {
        Tidewater x = Checks.established();
        if (lateBy > 0) {
            x.late(0, 1, lateBy);
        } else {
            x.lose(0, true, 1);
        }
        x.write(0, 40);
        Checks.until(x, 17);
        x.write(1, 10);
        return x;
    }

    /** "counts, if the number .. is above those of all that were sent ahead of the last harm": 4 is not */
    private static void harmOfWhatWasSentAhead() {
        Tidewater x = harmed(0);
        x.lose(0, true, 1);
        Checks.until(x, 19);
        Checks.due("4 was sent, and 5", x.packet(4, 1) + 100 * x.packet(5, 1), 1918);
        Checks.due("a harm", x.count(5), 1);
        isWindow(x, 0, 104, 104);
        Checks.until(x, 27);
        Checks.due("4 is lost", x.packet(4, 5), 2);
        Checks.due("losses", x.count(0), 2);
        Checks.due("no other harm", x.count(5), 1);
        isWindow(x, 0, 106, 104);
    }

    /** "is above those of all that were sent ahead of the last harm": 5 is, the first one that was sent since */
    private static void harmOfTheFirstOneSentSince() {
        Tidewater x = harmed(0);
        x.tick(1);
        x.lose(0, true, 1);
        x.tick(1);
        Checks.due("5 is gone", x.packet(5, 6) + 100 * x.packet(5, 1), 1903);
        x.write(2, 30);
        Checks.until(x, 29);
        Checks.due("5 is lost", x.packet(5, 5), 2);
        Checks.due("another harm", x.count(5), 2);
    }

    /** "of the last harm of the path that counted": 1 was sent on the path 1 ahead of the harm of the path 0 */
    private static void harmsOfEachPath() {
        Tidewater x = Checks.checked();
        x.use(2);
        x.lose(0, true, 1);
        x.lose(1, true, 1);
        x.write(0, 40);
        x.write(1, 30);
        Checks.until(x, 40);
        Checks.due("losses", x.packet(0, 5) + 10 * x.packet(1, 5), 22);
        Checks.due("their paths", x.packet(0, 0) + 10 * x.packet(1, 0), 10);
        Checks.due("harms", x.count(5), 2);
        Checks.due("a bound", x.path(0, 1) < 999999, true);
        Checks.due("a bound", x.path(1, 1) < 999999, true);
    }

    /** "the path of the greatest number in it is harmed": 0 is marked, by the path 0; 1 is not, by the path 1 */
    private static void harmByMarksOfTheGreatest() {
        Tidewater x = Checks.checked();
        mark(x, 4, 0);
        x.write(0, 10);
        x.tick(1);
        x.use(1);
        x.write(0, 10);
        Checks.until(x, 28);
        Checks.due("marked", x.packet(0, 10) + 10 * x.packet(1, 10), 1);
        Checks.due("acknowledged", x.packet(0, 5) + x.packet(1, 5), 2);
        isWindow(x, 0, 176, 999999);
        isWindow(x, 1, 88, 88);
    }

    /** "window and bound are again as they were ahead of it": 208 and 999999; the harm stays counted */
    private static void takenBack() {
        Tidewater x = Checks.established();
        x.late(0, 1, 7);
        x.write(0, 40);
        Checks.until(x, 19);
        isWindow(x, 0, 104, 104);
        Checks.until(x, 24);
        isWindow(x, 0, 104, 104);
        x.tick(1);
        Checks.due("none that was lost", x.count(1), 1);
        isWindow(x, 0, 208, 999999);
        Checks.due("harms", x.count(5), 1);
    }

    /** "before another harm counted": 5 is lost at 28, 0 turns out to be none at 36 */
    private static void notTakenBackBehindAnotherHarm() {
        Tidewater x = harmed(18);
        x.tick(1);
        x.lose(0, true, 1);
        x.tick(1);
        x.write(2, 30);
        Checks.until(x, 35);
        Checks.due("harms", x.count(5), 2);
        Checks.due("none that was none", x.count(1), 0);
        int window = x.path(0, 0);
        int bound = x.path(0, 1);
        x.tick(1);
        Checks.due("0 was none", x.packet(0, 5), 3);
        isWindow(x, 0, window, bound);
        Checks.due("small", window < 70, true);
    }

    /** "If a packet by which a harm counted turns out": 0 and 1 are lost at 19, the harm is that of 0 */
    private static void notTakenBackByAnotherPacket() {
        Tidewater x = Checks.established();
        x.lose(0, true, 1);
        x.late(0, 1, 7);
        x.write(0, 40);
        x.write(1, 10);
        Checks.until(x, 19);
        Checks.due("losses", x.packet(0, 5) + 10 * x.packet(1, 5), 22);
        isWindow(x, 0, 104, 104);
        Checks.until(x, 25);
        Checks.due("1 was none", x.packet(1, 5), 3);
        isWindow(x, 0, 104, 104);
    }

    /** "each of both by itself, if that is more": 208 is less than 384 (4, 5 and 6 in 2 ticks), 999999 more than 104 */
    private static void takenBackWithAGreaterWindow() {
        Tidewater x = Checks.established();
        x.late(0, 1, 16);
        x.write(0, 40);
        Checks.until(x, 19);
        isWindow(x, 0, 104, 104);
        x.setWay(0, RATES);
        mark(x, 1, 30);
        Checks.until(x, 25);
        x.write(1, 20);
        Checks.until(x, 30);
        isWindow(x, 0, 384, 104);
        x.tick(1);
        Checks.due("none that was lost", x.packet(0, 5), 3);
        isWindow(x, 0, 384, 999999);
    }

    /** "each of both by itself, if that is more": 291 is more than 146, 88 is less than 145 */
    private static void takenBackWithAGreaterBound() {
        Tidewater x = harmedByAMark();
        x.setWay(0, RATES);
        mark(x, 1, 30);
        x.write(0, 20);
        Checks.until(x, 24);
        isWindow(x, 0, 288, 88);
        x.setWay(0, ROUNDS);
        x.late(0, 1, 10);
        x.write(1, 40);
        Checks.until(x, 27);
        Checks.due("3 is lost", x.packet(3, 5), 2);
        isWindow(x, 0, 145, 145);
        Checks.until(x, 36);
        isWindow(x, 0, 146, 145);
        x.tick(1);
        Checks.due("none that was lost", x.packet(3, 5), 3);
        isWindow(x, 0, 291, 145);
    }

    private static void writeAll(Tidewater x) {
        for (int stream = 0; stream < 4; stream++) {
            x.write(stream, 25);
        }
    }

    /** "if its packets in flight and one more, times 16, are at most the window": 10 packets, 160 */
    private static void fullWindow() {
        Tidewater x = Checks.established();
        x.lose(0, true, 20);
        writeAll(x);
        Checks.until(x, 30);
        Checks.due("in flight", x.path(0, 2), 10);
        Checks.due("12 were to be sent", x.packets(), 10);
    }

    /** "are at most the window": 5 packets are 80, 6 are more than 88 */
    private static void windowOfNoWholePackets() {
        Tidewater x = harmedByAMark();
        x.lose(0, true, 20);
        x.write(0, 20);
        x.write(1, 40);
        x.write(2, 30);
        Checks.until(x, 30);
        Checks.due("in flight", x.path(0, 2), 5);
    }

    /** "a path that is used can take it": the path 1 is checked, and is not used */
    private static void fullWindowOfTheUsedPath() {
        for (int used = 0; used < 2; used++) {
            Tidewater x = Checks.checked();
            x.use(used);
            x.lose(0, true, 20);
            x.lose(1, true, 20);
            writeAll(x);
            Checks.until(x, 30);
            Checks.due("in flight", x.path(used, 2), 10);
            Checks.due("none on the other path", x.path(1 - used, 2), 0);
            x.use(1 - used);
            x.tick(1);
            Checks.due("two on the other path", x.path(1 - used, 2), 2);
        }
    }

    /** "the client, saying hello with early data, or established, sends as long as .. a path that is used can take it" */
    private static void fullWindowOfEarlyData() {
        Tidewater x = new Tidewater();
        x.setUp(0, false);
        writeAll(x);
        x.connect(0);
        for (int i = 1; i <= 5; i++) {
            x.tick(1);
            Checks.due("20 by 10 for each tick", x.packets(), 2 * i);
        }
        Checks.until(x, 30);
        Checks.due("10 in flight", x.packets(), 10);
    }

    /** "the window, divided by 16, times 2, divided by the time divided by 8 .., rounded up": 20 by 9, 20 by 5 */
    private static void perTickRoundedUp() {
        Tidewater x = Checks.established();
        writeAll(x);
        x.tick(1);
        Checks.due("20 by 9 is 3", x.packets(), 3);
        Tidewater y = new Tidewater();
        y.setPath(0, 2, 9, 30, 30);
        y.connect(-1);
        Checks.until(y, 5);
        Checks.due("the time", y.path(0, 3), 40);
        writeAll(y);
        y.tick(1);
        Checks.due("20 by 5 is 4", y.packets(), 4);
        Tidewater z = harmedByAMark();
        z.write(1, 40);
        z.tick(1);
        Checks.due("10 by 9 is 2", z.packets(), 3);
    }

    /** "rounded up, but at least 2": 20 by 31 would be 1 */
    private static void perTickAtLeastTwo() {
        Tidewater x = new Tidewater();
        x.setPath(0, 30, 9, 30, 30);
        x.connect(-1);
        Checks.until(x, 61);
        Checks.due("the time", x.path(0, 3), 248);
        writeAll(x);
        x.tick(1);
        Checks.due("2", x.packets(), 2);
        x.tick(1);
        Checks.due("2 more", x.packets(), 4);
    }

    /** COOKIE and ACCEPT are due at 13: the hello that COOKIE lets it say is answered in no time; now is 12. */
    private static Tidewater measureOfNothing() {
        Tidewater x = new Tidewater();
        x.setPath(0, 6, 9, 30, 30);
        x.setCookies(true);
        x.connect(-1);
        Checks.until(x, 9);
        x.setCookies(false);
        x.setPath(0, 1, 9, 30, 30);
        x.tick(1);
        x.setPath(0, 2, 9, 30, 30);
        Checks.until(x, 12);
        return x;
    }

    /** "divided by the time divided by 8, but that at least 1": a time of 0, and of 8 */
    private static void perTickByATimeOfNothing() {
        Tidewater x = measureOfNothing();
        writeAll(x);
        x.tick(1);
        Checks.due("the time", x.path(0, 3), 0);
        Checks.due("all that the window lets", x.packets(), 10);
    }

    /** "it has not sent at 5. of this tick so many": each path by itself, 20 by 9, and 20 by 10 */
    private static void perTickOfEachPath() {
        Tidewater x = Checks.checked();
        x.use(2);
        writeAll(x);
        x.tick(1);
        Checks.due("on the path 0", x.path(0, 2), 3);
        Checks.due("on the path 1", x.path(1, 2), 2);
        x.tick(1);
        Checks.due("on the path 0", x.path(0, 2), 6);
        Checks.due("on the path 1", x.path(1, 2), 4);
    }

    /** "if both can, the one with fewer packets in flight, the lower one of both alike" */
    private static void fewerInFlightOrTheLowerOne() {
        Tidewater x = Checks.checked();
        x.write(0, 10);
        x.tick(1);
        x.use(2);
        x.write(1, 40);
        x.tick(1);
        int[] path = {0, 1, 0, 1, 0};
        for (int i = 0; i < 5; i++) {
            Checks.due("the path of " + i, x.packet(i, 0), path[i]);
        }
        Tidewater y = Checks.checked();
        y.use(1);
        y.write(0, 10);
        y.tick(1);
        y.use(2);
        y.write(1, 30);
        y.tick(1);
        int[] other = {1, 0, 0, 1};
        for (int i = 0; i < 4; i++) {
            Checks.due("the path of " + i, y.packet(i, 0), other[i]);
        }
    }

    /** "twice the third power of c less k, divided by 125": 75 less 15, which makes an aim of 176 and 3456 */
    private static void aimFarBehindTheHarm() {
        Tidewater x = harmedByACube(1);
        mark(x, 4, 30);
        Checks.until(x, 84);
        x.write(1, 10);
        Checks.until(x, 95);
        isWindow(x, 0, 123, 123);
        x.tick(1);
        // 16 times 3509, by 123, is 456
        isWindow(x, 0, 579, 123);
    }

    /** "the window is 2 times the greatest of the last 8 rates, times the least measure": 16 by 63 ticks is 0 */
    private static void ratesOfASlowPath() {
        Tidewater x = Checks.established();
        x.setPath(1, 30, 9, 30, 30);
        x.check(1);
        Checks.until(x, 70);
        x.use(1);
        x.setWay(1, RATES);
        x.write(0, 10);
        Checks.until(x, 134);
        Checks.due("acknowledged", x.packet(0, 5), 1);
        isWindow(x, 1, 64, 999999);
        Checks.until(x, 164);
        Checks.due("its probe, too", x.packet(1, 5) + x.packet(1, 8), 2);
        Checks.due("the least measure", x.path(1, 5) > 32, true);
        isWindow(x, 1, 64, 999999);
    }

    /** "if its packets in flight and one more, times 16, are at most the window": 2 packets by 45, and by 32 */
    private static void windowsOfTwoPackets() {
        for (int harms = 2; harms <= 3; harms++) {
            Tidewater x = Checks.established();
            mark(x, 4, 0);
            for (int i = 0; i < harms; i++) {
                Checks.until(x, 9 + 20 * i);
                sendOne(x, i, 10);
            }
            Checks.due("the window", x.path(0, 0), harms == 2 ? 45 : 32);
            x.lose(0, true, 20);
            x.write(3, 40);
            x.tick(10);
            Checks.due("in flight", x.path(0, 2), 2);
        }
    }

    /** "the window, divided by 16, times 2": 151 makes 18, which is 2 by 9 */
    private static void perTickOfNoWholePackets() {
        Tidewater x = Checks.established();
        x.setWay(0, CUBE);
        x.lose(0, true, 1);
        x.write(0, 40);
        Checks.until(x, 30);
        isWindow(x, 0, 151, 145);
        Checks.due("the time divided by 8", x.path(0, 3) / 8, 9);
        int packets = x.packets();
        x.write(1, 40);
        x.tick(1);
        Checks.due("2", x.packets(), packets + 2);
        x.tick(1);
        Checks.due("2 more", x.packets(), packets + 4);
    }

    /** "rounded up": 22 by 3 is 8 */
    private static void perTickByASmallTime() {
        Tidewater x = new Tidewater();
        x.setPath(0, 1, 9, 30, 30);
        x.connect(-1);
        Checks.until(x, 3);
        Checks.due("the time", x.path(0, 3), 24);
        sendOne(x, 0, 1);
        Checks.due("the time", x.path(0, 3), 26);
        isWindow(x, 0, 176, 999999);
        x.write(0, 39);
        x.write(1, 40);
        x.write(2, 20);
        x.tick(1);
        Checks.due("8 in a tick", x.packets(), 9);
    }

    /** "k the least number of which the third power, twice, divided by 125, is 3 times w, divided by 10, or more" */
    private static void leastThirdPower() {
        Tidewater x = Checks.established();
        x.setWay(0, CUBE);
        x.lose(0, true, 1);
        x.write(0, 40);
        Checks.until(x, 19);
        isWindow(x, 0, 145, 145);
        x.setWay(0, ROUNDS);
        Checks.until(x, 30);
        sendOne(x, 1, 10);
        isWindow(x, 0, 147, 145);
        mark(x, 4, 0);
        sendOne(x, 1, 10);
        Checks.due("now", x.now(), 54);
        isWindow(x, 0, 74, 74);
        x.setWay(0, CUBE);
        mark(x, 4, 30);
        Checks.until(x, 67);
        x.write(1, 10);
        Checks.until(x, 78);
        isWindow(x, 0, 74, 74);
        x.tick(1);
        // w is 148, of which 44 is asked for: 14 makes 43, 15 makes 54; 25 less 15 makes an aim of 164
        isWindow(x, 0, 93, 74);
    }
}
