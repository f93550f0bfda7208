/** The edges that "Acknowledging" names, each by a test of its own; the sentence stands above it. */
final class AckEdgesTest {
    private AckEdgesTest() {
    }

    public static void main(String[] args) {
        firstIsZero();
        firstIsNotZero();
        justBehindTheGreatest();
        behindAGap();
        justBehindTheGreatestThoughAGapIsThere();
        aheadOfTheGreatest();
        secondSinceTheLast();
        thirdSinceTheLast();
        secondAtTheTickOfTheFirst();
        probeAtOnce();
        notAgainIfItDidByThen();
        firstAgainBehindARead();
        notTakenIsNotTheSecond();
        fourRanges();
        noRanges();
        noRangesAndOneInFlight();
        eachTickThatTwentyDivides();
        onceIfBothAreDue();
        againIfItDidAtOnce();
        noneIfNoneCame();
        noneIfTheStateWasLostSince();
        noneIfNothingIsRead();
        noneWhileDraining();
        noneWhileTheStateIsLost();
        onThePathOfTheLastOne();
        knownMarks();
        heardWhileClosing();
        notHeardWhenClosed();
        notHeardWhenReset();
        knownMarksAndAnOlderAck();
        fourHundredPackets();
        Checks.end("AckEdgesTest");
    }

    /** The packet 0 comes at 14, and is acknowledged at 17, and at 20 once more; now is 21. */
    private static Tidewater oneCame() {
        Tidewater x = Checks.established();
        x.write(0, 10);
        Checks.until(x, 21);
        Checks.due("acknowledgements", x.count(4), 2);
        return x;
    }

    private static void acksAt(Tidewater x, int tick, int want) {
        Checks.until(x, tick);
        Checks.due("acknowledgements at " + tick, x.count(4), want);
    }

    /** "(0 for the first one)", "otherwise 3 ticks later (at 3.)" */
    private static void firstIsZero() {
        Tidewater x = Checks.established();
        x.write(0, 10);
        acksAt(x, 14, 0);
        Checks.due("taken", x.packet(0, 6), 1);
        acksAt(x, 16, 0);
        acksAt(x, 17, 1);
    }

    /** "(0 for the first one)" */
    private static void firstIsNotZero() {
        Tidewater x = Checks.established();
        x.lose(0, true, 1);
        x.write(0, 20);
        acksAt(x, 13, 0);
        acksAt(x, 14, 1);
        acksAt(x, 19, 1);
    }

    /** "is not just the one behind the greatest number that was taken ahead of it": 1 behind 0 is */
    private static void justBehindTheGreatest() {
        Tidewater x = oneCame();
        x.write(0, 10);
        acksAt(x, 26, 2);
        Checks.due("taken", x.packet(1, 6), 1);
        acksAt(x, 28, 2);
        acksAt(x, 29, 3);
    }

    /** "is not just the one behind the greatest number that was taken ahead of it": 2 behind 0 is not */
    private static void behindAGap() {
        Tidewater x = oneCame();
        x.lose(0, true, 1);
        x.write(0, 20);
        acksAt(x, 25, 2);
        acksAt(x, 26, 3);
    }

    /** "the greatest number that was taken": 3 behind 2 is, though 1 is missing */
    private static void justBehindTheGreatestThoughAGapIsThere() {
        Tidewater x = oneCame();
        x.lose(0, true, 1);
        x.write(0, 20);
        x.tick(1);
        x.write(1, 10);
        acksAt(x, 27, 3);
        Checks.due("3 is taken", x.packet(3, 6), 1);
        acksAt(x, 29, 3);
        acksAt(x, 30, 4);
    }

    /** "is not just the one behind the greatest number": 1 behind 2 is not */
    private static void aheadOfTheGreatest() {
        Tidewater x = oneCame();
        x.late(0, 1, 2);
        x.write(0, 20);
        acksAt(x, 26, 3);
        Checks.due("2 is taken, 1 is not yet", x.packet(2, 6) + 10 * x.packet(1, 6), 1);
        acksAt(x, 27, 3);
        acksAt(x, 28, 4);
        Checks.due("1 is taken", x.packet(1, 6), 1);
    }

    /** "is the second one that is taken since the last acknowledgement, the server acknowledges at once" */
    private static void secondSinceTheLast() {
        Tidewater x = Checks.established();
        x.write(0, 10);
        x.tick(1);
        x.write(0, 10);
        acksAt(x, 14, 0);
        acksAt(x, 15, 1);
        acksAt(x, 19, 1);
    }

    /** "the second one": the third one is the first one since the last acknowledgement, the fourth one the second */
    private static void thirdSinceTheLast() {
        Tidewater x = Checks.established();
        x.write(0, 30);
        acksAt(x, 14, 1);
        acksAt(x, 16, 1);
        acksAt(x, 17, 2);
        Tidewater y = Checks.established();
        y.write(0, 30);
        y.tick(1);
        y.write(0, 10);
        acksAt(y, 14, 1);
        acksAt(y, 15, 2);
        acksAt(y, 19, 2);
    }

    /** "(at 3.), if it did not by then": 0 comes at 14, 1 at 17 */
    private static void secondAtTheTickOfTheFirst() {
        Tidewater x = Checks.established();
        x.write(0, 10);
        Checks.until(x, 12);
        x.write(0, 10);
        acksAt(x, 16, 0);
        acksAt(x, 17, 1);
        Checks.due("both are taken", x.packet(0, 6) + x.packet(1, 6), 2);
        acksAt(x, 19, 1);
    }

    /** "If one that is taken is a probe": 1 is, and it is just behind 0, and the first one since 40 */
    private static void probeAtOnce() {
        Tidewater x = Checks.established();
        x.lose(0, false, 3);
        x.write(0, 10);
        acksAt(x, 43, 3);
        Checks.due("a probe", x.packet(1, 8), 1);
        acksAt(x, 44, 4);
    }

    /** "otherwise 3 ticks later (at 3.), if it did not by then": it did when credits grew */
    private static void notAgainIfItDidByThen() {
        Tidewater x = Checks.established();
        x.write(0, 10);
        Checks.until(x, 15);
        x.read(0, 1);
        acksAt(x, 15, 1);
        acksAt(x, 19, 1);
    }

    /** "since the last acknowledgement": which was put when credits grew */
    private static void firstAgainBehindARead() {
        Tidewater x = Checks.established();
        x.write(0, 10);
        x.tick(1);
        x.write(0, 10);
        Checks.until(x, 14);
        x.read(0, 1);
        acksAt(x, 14, 1);
        acksAt(x, 15, 1);
        Checks.due("1 is taken", x.packet(1, 6), 1);
        acksAt(x, 17, 1);
        acksAt(x, 18, 2);
    }

    /** "the second one that is taken": 2 comes at 43, and is not taken by its key; 5 comes at 42, or at 44 */
    private static void notTakenIsNotTheSecond() {
        for (int tick = 42; tick <= 44; tick += 2) {
            Tidewater x = Checks.established();
            x.write(0, 20);
            Checks.until(x, 18);
            x.late(0, 1, 20);
            x.write(1, 10);
            x.tick(1);
            Checks.due("changeKey", x.changeKey(), 1);
            x.write(2, 10);
            Checks.until(x, tick - 5);
            x.write(3, 10);
            Checks.until(x, 41);
            int acks = x.count(4);
            acksAt(x, tick, acks);
            Checks.due("5 is taken", x.packet(5, 6), 1);
            acksAt(x, tick + 2, acks);
            Checks.due("2 is not taken", x.packet(2, 6), 2);
            acksAt(x, tick + 3, acks + 1);
        }
    }

    /** "the ranges of numbers that were taken, the 4 with the greatest numbers": 0, 2, 4, 6, and 8 in the other run */
    private static void fourRanges() {
        for (int last = 6; last <= 8; last += 2) {
            Tidewater x = Checks.established();
            x.lose(0, false, 20);
            for (int i = 0; i <= last; i++) {
                x.lose(0, true, i % 2);
                x.write(i % 4, 10);
                x.tick(1);
            }
            Checks.until(x, 13 + last);
            x.lose(0, false, 0);
            Checks.until(x, 17 + last);
            Checks.due("nothing is known", x.stream(0, 2) + x.stream(2, 2), 0);
            x.tick(1);
            for (int i = 2; i <= last; i += 2) {
                Checks.due("acknowledged: " + i + " of " + last, x.packet(i, 5), 1);
            }
            Checks.due("the lowest one: of " + last, x.packet(0, 5), last == 6 ? 1 : 2);
            Checks.due("it was taken", x.packet(0, 6), 1);
        }
    }

    /**
     * "the ranges of numbers that were taken .., how many marked ones were taken": none, though a marked one came at 17
     * while the server was established; at 20 it acknowledges nothing.
     */
    private static void noRanges() {
        Tidewater x = new Tidewater();
        x.setPath(0, 4, 9, 30, 0);
        x.write(0, 10);
        x.lose(0, false, 20);
        x.connect(6);
        Checks.until(x, 6);
        x.loseState();
        x.lose(0, false, 0);
        Checks.until(x, 12);
        x.write(1, 10);
        Checks.until(x, 17);
        Checks.due("marked, not taken", x.packet(1, 10) + 10 * x.packet(1, 6), 21);
        acksAt(x, 19, 0);
        acksAt(x, 20, 1);
        Checks.until(x, 25);
        Checks.due("no harm", x.count(5), 0);
        Checks.due("refused still", x.packet(0, 5) + x.packet(1, 5), 8);
    }

    /** "It is also put .. at each tick that 20 divides" */
    private static void eachTickThatTwentyDivides() {
        Tidewater x = Checks.established();
        x.write(0, 10);
        acksAt(x, 19, 1);
        for (int i = 0; i < 10; i++) {
            acksAt(x, 20 + 20 * i, 2 + i);
            acksAt(x, 39 + 20 * i, 2 + i);
        }
    }

    /** "the server acknowledges, if its time has come": 3 ticks behind 17, and at 20, which is once */
    private static void onceIfBothAreDue() {
        Tidewater x = Checks.established();
        Checks.until(x, 12);
        x.write(0, 10);
        acksAt(x, 19, 0);
        acksAt(x, 20, 1);
        acksAt(x, 39, 1);
    }

    /** "It is also put .. at each tick that 20 divides": two come at 20, and it is put at once, and at 3. */
    private static void againIfItDidAtOnce() {
        Tidewater x = Checks.established();
        Checks.until(x, 15);
        x.write(0, 20);
        acksAt(x, 19, 0);
        acksAt(x, 20, 2);
    }

    /** "if a packet of data ever came while the server was established" */
    private static void noneIfNoneCame() {
        Tidewater x = Checks.established();
        x.lose(0, true, 20);
        x.write(0, 10);
        acksAt(x, 100, 0);
        Checks.due("sent", x.packets() > 0, true);
    }

    /** "and it did not lose its state since": HELLO of 1 comes at 55 and makes it established again */
    private static void noneIfTheStateWasLostSince() {
        Tidewater x = new Tidewater();
        x.setPath(0, 4, 9, 30, 30);
        x.late(0, 1, 50);
        x.connect(-1);
        Checks.until(x, 18);
        x.write(0, 10);
        Checks.until(x, 50);
        int acks = x.count(4);
        Checks.due("at 26 and 40", acks, 2);
        x.loseState();
        Checks.until(x, 55);
        Checks.due("established again", x.state(1), 1);
        Checks.due("read", x.read(0, 4), 4);
        acksAt(x, 80, acks);
        Checks.due("no credit was told", x.stream(0, 4), 40);
        x.write(0, 10);
        // 1 comes at 85 and is not 0: at once
        acksAt(x, 84, acks);
        acksAt(x, 85, acks + 1);
        Checks.until(x, 89);
        Checks.due("the credit is told again", x.stream(0, 4), 44);
        acksAt(x, 100, acks + 2);
    }

    /** "It is also put when credits grow by reading": by reading nothing they don't */
    private static void noneIfNothingIsRead() {
        Tidewater x = oneCame();
        Checks.due("of another stream", x.read(1, 5), 0);
        acksAt(x, 21, 2);
        Checks.due("all", x.read(0, 200), 10);
        acksAt(x, 21, 3);
        Checks.due("none is left", x.read(0, 200), 0);
        acksAt(x, 21, 3);
    }

    /** "If it .. drains, none is taken", "none is put while it is not established": 0 waits from 14, CLOSE comes at 15 */
    private static void noneWhileDraining() {
        Tidewater x = Checks.established();
        x.write(0, 10);
        x.tick(1);
        x.write(0, 10);
        x.late(0, 1, 3);
        x.tick(1);
        x.close();
        acksAt(x, 16, 0);
        Checks.due("drains", x.state(1), 2);
        acksAt(x, 17, 0);
        Checks.until(x, 18);
        Checks.due("1 came and is not taken", x.packet(1, 6), 2);
        Checks.due("read", x.read(0, 3), 3);
        acksAt(x, 40, 0);
    }

    /** "none is put while it is not established": 0 waits from 14, and the state is lost */
    private static void noneWhileTheStateIsLost() {
        Tidewater x = Checks.established();
        x.write(0, 10);
        Checks.until(x, 15);
        x.loseState();
        acksAt(x, 17, 0);
        Checks.due("read", x.read(0, 3), 3);
        acksAt(x, 40, 0);
    }

    /** "on the path by which the last packet of data came": 0 came by the path 0 at 23, 1 by the path 1 at 24 */
    private static void onThePathOfTheLastOne() {
        for (int down = 0; down < 2; down++) {
            Tidewater x = Checks.checked();
            x.write(0, 10);
            x.tick(1);
            x.use(1);
            x.write(1, 10);
            Checks.until(x, 23);
            x.setUp(down, false);
            acksAt(x, 24, 1);
            Checks.until(x, 27);
            Checks.due("ahead of it", x.packet(0, 5) + x.packet(1, 5), 0);
            Checks.until(x, 28);
            Checks.due("down: " + down, x.packet(0, 5) + x.packet(1, 5), down == 0 ? 2 : 0);
        }
    }

    /** "if there are more marked ones than it knew": as many are told again at 20, and one more at 29 */
    private static void knownMarks() {
        Tidewater x = Checks.established();
        x.setPath(0, 4, 9, 30, 0);
        x.write(0, 10);
        Checks.until(x, 20);
        Checks.due("not heard of", x.count(5), 0);
        Checks.until(x, 21);
        Checks.due("1 is more than 0", x.count(5), 1);
        x.write(0, 10);
        Checks.until(x, 24);
        Checks.due("1 is not more than 1", x.count(5), 1);
        Checks.until(x, 32);
        Checks.due("not heard of", x.count(5), 1);
        Checks.until(x, 33);
        Checks.due("2 is more than 1", x.count(5), 2);
    }

    /** "when ACK arrives while it is established (or closing)" */
    private static void heardWhileClosing() {
        Tidewater x = Checks.established();
        x.write(0, 20);
        x.tick(1);
        x.close();
        Checks.until(x, 17);
        Checks.due("in flight", x.path(0, 2), 2);
        Checks.until(x, 18);
        Checks.due("acknowledged", x.packet(0, 5) + x.packet(1, 5), 2);
        Checks.due("the window", x.path(0, 0), 192);
        Checks.due("the measure", x.path(0, 6), 8);
    }

    /** "nothing that arrives does anything then, as when it is closed": closed at 40, ACK comes at 44 */
    private static void notHeardWhenClosed() {
        Tidewater x = Checks.established();
        x.write(0, 20);
        x.tick(1);
        x.close();
        x.tick(1);
        x.setPath(0, 30, 9, 30, 30);
        Checks.until(x, 45);
        Checks.due("closed", x.state(0), 4);
        Checks.due("an ACK was put", x.count(4), 1);
        Checks.due("in flight still", x.path(0, 2), 2);
        Checks.due("not acknowledged", x.stream(0, 2), 0);
    }

    /** "nothing that arrives does anything then": reset at 23, ACK comes at 44 */
    private static void notHeardWhenReset() {
        Tidewater x = Checks.established();
        x.write(0, 20);
        Checks.until(x, 13);
        x.setPath(0, 30, 9, 30, 30);
        x.tick(1);
        x.setPath(0, 4, 9, 30, 30);
        x.loseState();
        x.check(0);
        Checks.until(x, 23);
        Checks.due("reset", x.state(0), 5);
        Checks.until(x, 45);
        Checks.due("an ACK was put", x.count(4), 1);
        Checks.due("in flight still", x.path(0, 2), 2);
    }

    /** "Packets of data are numbered from 0, at most 400": 300 of one byte each, then probes; some 470 calls */
    private static void fourHundredPackets() {
        Tidewater x = Checks.checked();
        x.setPath(0, 1, 9, 30, 30);
        x.setPath(1, 1, 9, 30, 30);
        x.use(2);
        for (int round = 0; round < 75; round++) {
            for (int stream = 0; stream < 4; stream++) {
                x.write(stream, 1);
                if (round % 10 == 9) {
                    x.read(stream, 200);
                }
            }
            x.tick(1);
        }
        Checks.due("packets of one byte", x.packets(), 300);
        while (x.packets() < 400 && x.now() < 1700) {
            x.lose(0, true, 20);
            x.lose(1, true, 20);
            if (x.packets() < 304) {
                x.write(x.packets() % 4, 1);
            }
            x.tick(x.packets() < 304 ? 1 : 50);
        }
        Checks.due("packets", x.packets(), 400);
        Checks.due("the last one is a probe", x.packet(399, 8), 1);
        Checks.due("numbered from 0", x.packet(0, 1) < x.packet(399, 1), true);
        int probes = x.count(2);
        int sent = x.stream(0, 1);
        x.lose(0, true, 0);
        x.lose(1, true, 0);
        x.write(0, 10);
        Checks.until(x, 2000);
        Checks.due("no other packet", x.packets(), 400);
        Checks.due("no other probe", x.count(2), probes);
        Checks.due("no other byte", x.stream(0, 1), sent);
        Checks.refused("packet", x, Checks.INDEX, () -> x.packet(400, 0));
    }

    /** "more marked ones than it knew": it knows 2 since 21; the ACK of 47 tells 1, that of 53 tells 2 again */
    private static void knownMarksAndAnOlderAck() {
        Tidewater x = Checks.established();
        x.setPath(0, 4, 9, 30, 0);
        x.write(0, 10);
        Checks.until(x, 16);
        x.setPath(0, 30, 9, 30, 0);
        x.tick(1);
        Checks.due("an ACK that comes at 47", x.count(4), 1);
        x.setPath(0, 1, 9, 30, 0);
        x.write(0, 10);
        Checks.until(x, 21);
        Checks.due("both are acknowledged", x.packet(0, 5) + x.packet(1, 5), 2);
        Checks.due("a harm", x.count(5), 1);
        x.setPath(0, 1, 9, 30, 30);
        Checks.until(x, 47);
        x.write(0, 10);
        Checks.until(x, 53);
        Checks.due("acknowledged", x.packet(2, 5), 1);
        Checks.due("no other harm", x.count(5), 1);
    }

    /**
     * "if the greatest number in it was in flight": there is none in the ACK of 24, and 0 is in flight. 0 is early and
     * late: it comes at 17, to a server that lost its state at 13 and takes no early data since 14; the client was told
     * at 14 that it is taken. What the ACK does is that probes begin anew: 15 ticks behind that of 16.
     */
    private static void noRangesAndOneInFlight() {
        Tidewater x = new Tidewater();
        x.setPath(0, 4, 1, 30, 30);
        x.write(0, 10);
        x.connect(3);
        x.tick(1);
        x.late(0, 1, 11);
        x.tick(1);
        x.setPath(0, 9, 9, 30, 30);
        Checks.until(x, 9);
        x.setPath(0, 4, 9, 30, 30);
        Checks.until(x, 13);
        x.loseState();
        Checks.until(x, 14);
        Checks.due("established, both", x.state(0) + x.state(1), 3);
        x.lose(0, true, 1);
        Checks.until(x, 17);
        Checks.due("not taken", x.packet(0, 6), 2);
        Checks.due("its probe is gone", x.packet(1, 6) + 10 * x.packet(1, 8), 13);
        acksAt(x, 19, 0);
        acksAt(x, 20, 1);
        Checks.until(x, 30);
        Checks.due("in flight", x.packet(0, 5), 0);
        Checks.due("no measure", x.path(0, 6), 4);
        Checks.due("probes", x.count(2), 1);
        x.tick(1);
        Checks.due("probes", x.count(2), 2);
    }
}
