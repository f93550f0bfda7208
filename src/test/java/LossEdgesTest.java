/** The edges that "Measures, losses, probes" names, each by a test of its own; the sentence stands above it. */
final class LossEdgesTest {
    private static final int IN_FLIGHT = 0, ACKNOWLEDGED = 1, LOST = 2, LOST_AND_ACKNOWLEDGED = 3;

    private LossEdgesTest() {
    }

    public static void main(String[] args) {
        firstMeasure();
        firstMeasureAboveTen();
        firstMeasureOfTheOtherPath();
        otherMeasures();
        measureOfNothing();
        noMeasureOfWhatIsKnown();
        noMeasureOfWhatIsLost();
        threeBehindIsLost();
        twoBehindIsNotLost();
        behindItThere();
        byTimeOfTheLatest();
        byTimeOfTheSmoothTime();
        byTimeOnlyAheadOfAnother();
        notByAnotherPath();
        harmsItsPath();
        closingLosesByOrder();
        closingLosesByTimeWithAnAck();
        lostNoMore();
        probeInTime();
        probeWithoutSpread();
        probeSinceTheLastOneSent();
        probeOfEachPath();
        probesOfBothPathsInOneTick();
        probesAreDoubled();
        probesBeginAnewByTheOtherPath();
        probesOfThePathOneBeginAnew();
        probeWhateverTheWindowIs();
        probeOfTheLowestInFlight();
        probeBesideWhatIsSent();
        probeOfNothing();
        probeWhileSayingHello();
        probeWhileClosing();
        probeWithTheKeyOfNow();
        probesAreDoubledAtMostSixTimes();
        threeBehindIsLostOnThePathOne();
        byTimeOnThePathOne();
        countsOfThePathOne();
        Checks.end("LossEdgesTest");
    }

    /** Established at 61 by a delay of 30, with a measure of 31, since the last hello was said at 30. */
    private static Tidewater slow() {
        Tidewater x = new Tidewater();
        x.setPath(0, 30, 9, 30, 30);
        x.connect(-1);
        Checks.until(x, 61);
        Checks.due("established", x.state(0), 2);
        return x;
    }

    private static void isMeasured(Tidewater x, int path, int time, int spread, int least, int latest) {
        Checks.due("the time", x.path(path, 3), time);
        Checks.due("the spread", x.path(path, 4), spread);
        Checks.due("the least measure", x.path(path, 5), least);
        Checks.due("the latest one", x.path(path, 6), latest);
    }

    private static void probesAt(Tidewater x, int tick, int want) {
        Checks.until(x, tick - 1);
        Checks.due("probes ahead of " + tick, x.count(2), want - 1);
        x.tick(1);
        Checks.due("probes at " + tick, x.count(2), want);
    }

    /** "The first measure m makes the time 8 m, and the spread 2 m"; "10 each until then" */
    private static void firstMeasure() {
        Tidewater x = new Tidewater();
        x.setPath(0, 4, 9, 30, 30);
        x.connect(-1);
        Checks.until(x, 8);
        isMeasured(x, 0, 80, 20, 10, 10);
        x.tick(1);
        isMeasured(x, 0, 72, 18, 9, 9);
        isMeasured(x, 1, 80, 20, 10, 10);
    }

    /** "The least measure and the latest one are known, 10 each until then": 31 is the least one then */
    private static void firstMeasureAboveTen() {
        isMeasured(slow(), 0, 248, 62, 31, 31);
    }

    /** "Until the first one the time is 80, and the spread 20": of each path by itself; 11 ticks */
    private static void firstMeasureOfTheOtherPath() {
        Tidewater x = Checks.checked();
        x.use(1);
        x.write(0, 10);
        Checks.until(x, 29);
        isMeasured(x, 1, 80, 20, 10, 10);
        x.tick(1);
        isMeasured(x, 1, 88, 22, 11, 11);
        isMeasured(x, 0, 72, 18, 9, 9);
    }

    /** "another one makes the spread more by the difference .., less the spread divided by 4; .. all divided rounded down" */
    private static void otherMeasures() {
        Tidewater x = Checks.established();
        x.write(0, 10);
        Checks.until(x, 21);
        // 11: 18 and 2 less 4; 72 and 11 less 9
        isMeasured(x, 0, 74, 16, 9, 11);
        x.write(0, 20);
        Checks.until(x, 30);
        // 8: 16 and 1 less 4; 74 and 8 less 9
        isMeasured(x, 0, 73, 13, 8, 8);
        x.write(0, 10);
        Checks.until(x, 42);
        // 11: 13 and 2 less 3; 73 and 11 less 9
        isMeasured(x, 0, 75, 12, 8, 11);
    }

    /** "The first measure m makes the time 8 m": of 0; COOKIE and ACCEPT come at 13, and hello is said between them */
    private static Tidewater measuredNothing() {
        Tidewater x = new Tidewater();
        x.setPath(0, 6, 9, 30, 30);
        x.setCookies(true);
        x.connect(-1);
        Checks.until(x, 9);
        x.setCookies(false);
        x.setPath(0, 1, 9, 30, 30);
        x.tick(1);
        x.setPath(0, 2, 9, 30, 30);
        Checks.until(x, 12);
        Checks.due("saying hello", x.state(0), 1);
        return x;
    }

    /** "The first measure m": 0; another one of 4 behind it */
    private static void measureOfNothing() {
        Tidewater x = measuredNothing();
        x.write(0, 20);
        x.tick(1);
        isMeasured(x, 0, 0, 0, 0, 0);
        Checks.due("sent", x.packets(), 2);
        Checks.until(x, 17);
        isMeasured(x, 0, 4, 4, 0, 4);
    }

    /** "if the greatest number in it was in flight": 0 was acknowledged at 21, and is told again at 24 */
    private static void noMeasureOfWhatIsKnown() {
        Tidewater x = Checks.established();
        x.write(0, 10);
        Checks.until(x, 21);
        Checks.due("acknowledged", x.packet(0, 5), ACKNOWLEDGED);
        Checks.until(x, 25);
        Checks.due("acknowledgements", x.count(4), 2);
        isMeasured(x, 0, 74, 16, 9, 11);
    }

    /**
     * "if the greatest number in it was in flight": 0 is lost at 51 and comes at 58, to a server that lost its state
     * and knows of no other one; what has the bytes of 0 is gone.
     */
    private static void noMeasureOfWhatIsLost() {
        Tidewater x = new Tidewater();
        x.setPath(0, 4, 9, 30, 30);
        x.late(0, 1, 50);
        x.connect(-1);
        Checks.until(x, 41);
        x.late(0, 1, 12);
        x.write(0, 40);
        Checks.until(x, 49);
        x.lose(0, true, 2);
        Checks.until(x, 52);
        Checks.due("0 is lost", x.packet(0, 5), LOST);
        x.loseState();
        Checks.until(x, 63);
        Checks.due("0 is taken", x.packet(0, 6) + 10 * x.packet(4, 6), 31);
        int time = x.path(0, 3);
        int latest = x.path(0, 6);
        Checks.due("none that was none", x.count(1), 0);
        x.tick(1);
        Checks.due("0 is acknowledged", x.packet(0, 5), LOST_AND_ACKNOWLEDGED);
        Checks.due("one that was none", x.count(1), 1);
        Checks.due("the time", x.path(0, 3), time);
        Checks.due("the latest measure", x.path(0, 6), latest);
    }

    /** "if one that was sent on the same path, 3 or more behind it there, was acknowledged" */
    private static void threeBehindIsLost() {
        Tidewater x = slow();
        x.lose(0, true, 1);
        x.write(0, 40);
        Checks.until(x, 122);
        Checks.due("1 is acknowledged", x.packet(1, 5) + 10 * x.packet(3, 5), ACKNOWLEDGED);
        Checks.due("not lost", x.packet(0, 5), IN_FLIGHT);
        x.tick(1);
        Checks.due("3 is acknowledged", x.packet(3, 5), ACKNOWLEDGED);
        Checks.due("lost", x.packet(0, 5), LOST);
        Checks.due("losses", x.count(0), 1);
    }

    /**
     * "3 or more behind it": 2 are not enough; "as many ticks as 9 times the greater of .., divided by 8, or more":
     * the latest measure is 63, which makes 70 ticks behind 62.
     */
    private static void twoBehindIsNotLost() {
        Tidewater x = slow();
        x.lose(0, true, 1);
        x.write(0, 30);
        Checks.until(x, 126);
        Checks.due("2 is acknowledged", x.packet(2, 5), ACKNOWLEDGED);
        Checks.due("the latest measure", x.path(0, 6), 63);
        Checks.due("not lost", x.packet(0, 5), IN_FLIGHT);
        Checks.until(x, 131);
        Checks.due("not lost", x.packet(0, 5), IN_FLIGHT);
        x.tick(1);
        Checks.due("lost by time", x.packet(0, 5), LOST);
    }

    /** "behind it there": 1 and 3 go by the path 1, so that 4 is the second one behind 0 */
    private static void behindItThere() {
        Tidewater x = Checks.checked();
        x.use(2);
        x.lose(0, true, 1);
        x.write(0, 40);
        x.write(1, 10);
        x.tick(1);
        for (int i = 0; i < 5; i++) {
            Checks.due("the path of " + i, x.packet(i, 0), i % 2);
        }
        Checks.until(x, 27);
        Checks.due("2 and 4 are acknowledged", x.packet(2, 5) + x.packet(4, 5), 2 * ACKNOWLEDGED);
        Checks.due("not lost", x.packet(0, 5), IN_FLIGHT);
        x.tick(1);
        Checks.due("lost by time, 9 ticks behind 19", x.packet(0, 5), LOST);
    }

    /** "9 times the greater of the time divided by 8 and the latest measure, divided by 8": 8 and 8 make 9 ticks */
    private static void byTimeOfTheLatest() {
        Tidewater x = Checks.established();
        x.lose(0, true, 1);
        x.write(0, 20);
        Checks.until(x, 18);
        Checks.due("1 is acknowledged", x.packet(1, 5), ACKNOWLEDGED);
        Checks.due("8 ticks", x.packet(0, 5), IN_FLIGHT);
        x.tick(1);
        Checks.due("9 ticks", x.packet(0, 5), LOST);
    }

    /** "the greater of the time divided by 8 and the latest measure": 28 and 8 make 31 ticks behind 62 */
    private static void byTimeOfTheSmoothTime() {
        Tidewater x = slow();
        x.setPath(0, 4, 9, 30, 30);
        x.lose(0, true, 1);
        x.write(0, 20);
        Checks.until(x, 92);
        isMeasured(x, 0, 225, 70, 8, 8);
        Checks.due("30 ticks", x.packet(0, 5), IN_FLIGHT);
        x.tick(1);
        Checks.due("31 ticks", x.packet(0, 5), LOST);
    }

    /** "by time, if any one behind it there was": 0 is ahead of 1, a probe of 50 is behind it */
    private static void byTimeOnlyAheadOfAnother() {
        Tidewater x = Checks.established();
        x.write(0, 10);
        Checks.until(x, 21);
        x.lose(0, true, 1);
        x.write(0, 10);
        probesAt(x, 50, 1);
        Checks.until(x, 57);
        Checks.due("not lost", x.packet(1, 5), IN_FLIGHT);
        x.tick(1);
        Checks.due("the probe is acknowledged", x.packet(2, 5), ACKNOWLEDGED);
        Checks.due("lost", x.packet(1, 5), LOST);
    }

    /** "sent on the same path": three behind it on the other one are nothing to it */
    private static void notByAnotherPath() {
        Tidewater x = Checks.checked();
        x.lose(0, true, 1);
        x.write(0, 10);
        x.tick(1);
        x.use(1);
        x.write(0, 30);
        Checks.until(x, 48);
        for (int i = 1; i < 4; i++) {
            Checks.due("acknowledged", x.packet(i, 5) + 10 * x.packet(i, 0), 10 + ACKNOWLEDGED);
        }
        Checks.due("not lost", x.packet(0, 5), IN_FLIGHT);
        Checks.due("no loss", x.count(0), 0);
    }

    /** "each one harms its path" */
    private static void harmsItsPath() {
        Tidewater x = Checks.checked();
        x.use(1);
        x.lose(1, true, 1);
        x.write(0, 40);
        Checks.until(x, 40);
        Checks.due("losses", x.count(0), 1);
        Checks.due("harms", x.count(5), 1);
        Checks.due("the bound of the path 1", x.path(1, 1) < 999999, true);
        Checks.due("the bound of the path 0", x.path(0, 1), 999999);
        Checks.due("the window of the path 0", x.path(0, 0), 160);
    }

    /** "when ACK arrives while it is established (or closing) .. then losses by order, and by time" */
    private static void closingLosesByOrder() {
        Tidewater x = Checks.established();
        x.lose(0, true, 1);
        x.write(0, 40);
        Checks.until(x, 11);
        x.lose(0, true, 1);
        x.close();
        Checks.until(x, 18);
        Checks.due("not lost", x.packet(0, 5), IN_FLIGHT);
        x.tick(1);
        Checks.due("lost", x.packet(0, 5), LOST);
        Checks.due("a harm", x.count(5), 1);
        Checks.until(x, 30);
        Checks.due("bytes that are lost, and not sent", x.stream(0, 3), 10);
        Checks.due("packets", x.packets(), 4);
    }

    /** "At 4. losses by time and probes are looked for while the client says hello or is established alone." */
    private static void closingLosesByTimeWithAnAck() {
        Tidewater x = Checks.established();
        x.lose(0, true, 1);
        x.write(0, 20);
        Checks.until(x, 11);
        x.lose(0, true, 1);
        x.close();
        Checks.until(x, 23);
        Checks.due("1 is acknowledged", x.packet(1, 5), ACKNOWLEDGED);
        Checks.due("13 ticks, and not lost", x.packet(0, 5), IN_FLIGHT);
        x.tick(1);
        Checks.due("lost with the ACK of 20", x.packet(0, 5), LOST);
    }

    /** "and those that were lost are lost no more, which is a loss that was none" */
    private static void lostNoMore() {
        Tidewater x = Checks.established();
        x.late(0, 1, 7);
        x.write(0, 40);
        Checks.until(x, 11);
        x.lose(0, true, 1);
        x.close();
        Checks.until(x, 24);
        Checks.due("lost", x.packet(0, 5), LOST);
        Checks.due("bytes lost", x.stream(0, 3), 10);
        Checks.due("bytes acknowledged", x.stream(0, 2), 30);
        Checks.due("losses that were none", x.count(1), 0);
        x.tick(1);
        Checks.due("lost no more", x.packet(0, 5), LOST_AND_ACKNOWLEDGED);
        Checks.due("bytes lost", x.stream(0, 3), 0);
        Checks.due("bytes acknowledged", x.stream(0, 2), 40);
        Checks.due("losses that were none", x.count(1), 1);
        Checks.due("losses", x.count(0), 1);
    }

    /** "so many ticks have passed since ..: the time divided by 8, the spread .., and 3, together": 9, 18 and 3 */
    private static void probeInTime() {
        Tidewater x = Checks.established();
        x.lose(0, true, 1);
        x.write(2, 7);
        probesAt(x, 40, 1);
        Checks.due("a probe", x.packet(1, 8) + 10 * x.packet(0, 8), 1);
        Checks.due("of the same stream", x.packet(1, 2), 2);
        Checks.due("of the same bytes", x.packet(1, 3) * 100 + x.packet(1, 4), 7);
        Checks.due("not early", x.packet(1, 9), 0);
        Checks.due("sent at", x.packet(1, 1), 40);
    }

    /** "the spread (but at least 1)": 0, 1 and 3 behind 13 */
    private static void probeWithoutSpread() {
        Tidewater x = measuredNothing();
        x.lose(0, true, 1);
        x.write(0, 10);
        x.tick(1);
        Checks.due("the spread", x.path(0, 4), 0);
        probesAt(x, 17, 1);
    }

    /** "since the last one that was sent on it": at 15 */
    private static void probeSinceTheLastOneSent() {
        Tidewater x = Checks.established();
        x.lose(0, true, 20);
        x.write(0, 10);
        Checks.until(x, 14);
        x.write(0, 10);
        probesAt(x, 45, 1);
    }

    /** "since the last one that was sent on it": at 19 on the path 0, at 25 on the path 1, of which the time is 80 */
    private static void probeOfEachPath() {
        Tidewater x = Checks.checked();
        x.lose(0, true, 20);
        x.lose(1, true, 20);
        x.write(0, 10);
        x.tick(1);
        x.use(1);
        Checks.until(x, 24);
        x.write(0, 10);
        probesAt(x, 49, 1);
        Checks.due("a probe of the path 0", x.packet(2, 0), 0);
        probesAt(x, 58, 2);
        Checks.due("a probe of the path 1", x.packet(3, 0), 1);
    }

    /** "of the path 0, then 1; then it probes, likewise"; "the lowest one in flight on the path" */
    private static void probesOfBothPathsInOneTick() {
        Tidewater x = Checks.checked();
        x.lose(0, true, 20);
        x.lose(1, true, 20);
        x.use(1);
        x.write(0, 10);
        x.tick(1);
        x.use(0);
        Checks.until(x, 21);
        x.write(0, 10);
        Checks.until(x, 51);
        Checks.due("none yet", x.count(2), 0);
        x.tick(1);
        Checks.due("two", x.count(2), 2);
        Checks.due("the path 0 first", x.packet(2, 0) + 10 * x.packet(2, 3), 100);
        Checks.due("then the path 1", x.packet(3, 0) + 10 * x.packet(3, 3), 1);
    }

    /** "doubled for each probe since probes began anew" */
    private static void probesAreDoubled() {
        Tidewater x = Checks.established();
        x.lose(0, true, 20);
        x.write(0, 10);
        probesAt(x, 40, 1);
        probesAt(x, 100, 2);
        probesAt(x, 220, 3);
        probesAt(x, 460, 4);
        Checks.due("all in flight", x.path(0, 2), 5);
    }

    /** "probes of all paths begin anew": by an ACK of a packet of the path 1; 30 ticks behind 49, not 60 */
    private static void probesBeginAnewByTheOtherPath() {
        Tidewater x = Checks.checked();
        x.lose(0, true, 20);
        x.write(0, 10);
        probesAt(x, 49, 1);
        x.use(1);
        x.write(1, 10);
        Checks.until(x, 58);
        Checks.due("acknowledged", x.packet(2, 5), ACKNOWLEDGED);
        probesAt(x, 79, 2);
    }

    /** "probes of all paths begin anew": by an ACK of a packet of the path 0; 33 ticks behind 52, not 66 */
    private static void probesOfThePathOneBeginAnew() {
        Tidewater x = Checks.checked();
        x.use(1);
        x.lose(1, true, 20);
        x.write(0, 10);
        probesAt(x, 52, 1);
        x.use(0);
        x.write(1, 10);
        Checks.until(x, 61);
        Checks.due("acknowledged", x.packet(2, 5), ACKNOWLEDGED);
        probesAt(x, 85, 2);
    }

    /** "it is sent whatever the window is": 10 in flight fill it */
    private static void probeWhateverTheWindowIs() {
        Tidewater x = Checks.established();
        x.lose(0, true, 20);
        x.write(3, 40);
        x.write(1, 40);
        x.write(2, 40);
        Checks.until(x, 13);
        Checks.due("in flight", x.path(0, 2), 10);
        probesAt(x, 43, 1);
        Checks.due("in flight", x.path(0, 2), 11);
        Checks.due("found anew", x.inFlightAnew(0), 11);
        Checks.due("the window", x.path(0, 0), 160);
        Checks.due("the bytes of 0", x.packet(10, 2) * 100 + x.packet(10, 3), 100);
    }

    /** "the same bytes as the lowest one in flight on the path": 0 is acknowledged, 1 and 2 are in flight */
    private static void probeOfTheLowestInFlight() {
        Tidewater x = Checks.established();
        x.write(0, 10);
        Checks.until(x, 21);
        x.lose(0, true, 2);
        x.write(0, 13);
        probesAt(x, 50, 1);
        Checks.due("the bytes of 1", x.packet(3, 3) * 100 + x.packet(3, 4), 1010);
    }

    /** "it has not sent at 5. of this tick so many": a probe is sent at 4., and three more at 5. */
    private static void probeBesideWhatIsSent() {
        Tidewater x = Checks.established();
        x.lose(0, true, 20);
        x.write(0, 10);
        Checks.until(x, 39);
        x.write(1, 40);
        x.tick(1);
        Checks.due("one, its probe, and three", x.packets(), 5);
        Checks.due("the probe first", x.packet(1, 8) + x.packet(2, 8) + x.packet(4, 8), 1);
    }

    /** "if it has packets in flight" */
    private static void probeOfNothing() {
        Tidewater x = Checks.established();
        x.write(0, 20);
        Checks.until(x, 300);
        Checks.due("no probe", x.count(2), 0);
        Checks.due("packets", x.packets(), 2);
    }

    /** "looked for while the client says hello or is established alone": 10, 20 and 3 behind 1 */
    private static void probeWhileSayingHello() {
        Tidewater x = new Tidewater();
        x.lose(0, true, 20);
        x.write(0, 10);
        x.connect(0);
        probesAt(x, 34, 1);
        Checks.due("saying hello", x.state(0), 1);
        Checks.due("early", x.packet(1, 9), 1);
    }

    /** "looked for while the client says hello or is established alone" */
    private static void probeWhileClosing() {
        Tidewater x = Checks.established();
        x.lose(0, true, 20);
        x.write(0, 10);
        Checks.until(x, 38);
        x.close();
        Checks.until(x, 67);
        Checks.due("closing", x.state(0), 3);
        Checks.due("no probe", x.count(2), 0);
        Checks.until(x, 200);
        Checks.due("closed", x.state(0), 4);
        Checks.due("no probe", x.count(2), 0);
    }

    /** "Each packet of data has a key": a probe that of the client by then */
    private static void probeWithTheKeyOfNow() {
        Tidewater x = Checks.established();
        x.write(0, 10);
        Checks.until(x, 21);
        x.lose(0, true, 1);
        x.write(0, 10);
        x.tick(1);
        Checks.due("changeKey", x.changeKey(), 1);
        probesAt(x, 50, 1);
        Checks.due("the keys", x.packet(1, 7) + 10 * x.packet(2, 7), 10);
    }

    /** "doubled .., at most 6 times": 1, 2 and 3 behind 12 is 18, then 12, 24, 48, 96, 192, 384, and 384 ever after */
    private static void probesAreDoubledAtMostSixTimes() {
        Tidewater x = new Tidewater();
        x.connect(-1);
        Checks.until(x, 11);
        Checks.due("a measure of 1", x.path(0, 3), 8);
        x.setUp(0, false);
        x.write(0, 10);
        int[] at = {18, 30, 54, 102, 198, 390, 774, 1158, 1542, 1926};
        for (int i = 0; i < at.length; i++) {
            probesAt(x, at[i], i + 1);
        }
    }

    /** Uses the path 1 from 70 on, by a delay of 30; of the packets of 71 the first one is gone. */
    private static Tidewater slowPathOne(int bytes) {
        Tidewater x = Checks.established();
        x.setPath(1, 30, 9, 30, 30);
        x.check(1);
        Checks.until(x, 70);
        x.use(1);
        x.lose(1, true, 1);
        x.write(0, bytes);
        Checks.until(x, 130);
        Checks.due("gone", x.packet(0, 6) + 10 * x.packet(0, 0), 13);
        return x;
    }

    /** "then losses by order, and by time, of the path 0, then 1" */
    private static void threeBehindIsLostOnThePathOne() {
        Tidewater x = slowPathOne(40);
        Checks.until(x, 131);
        Checks.due("1 is acknowledged", x.packet(1, 5), ACKNOWLEDGED);
        Checks.due("not lost", x.packet(0, 5), IN_FLIGHT);
        x.tick(1);
        Checks.due("3 is acknowledged", x.packet(3, 5), ACKNOWLEDGED);
        Checks.due("lost", x.packet(0, 5), LOST);
    }

    /** "4. the client looks for losses by time, of the path 0, then 1": 70 ticks by a measure of 63, behind 71 */
    private static void byTimeOnThePathOne() {
        Tidewater x = slowPathOne(30);
        Checks.until(x, 135);
        Checks.due("2 is acknowledged", x.packet(2, 5), ACKNOWLEDGED);
        isMeasured(x, 1, 483, 93, 60, 63);
        Checks.until(x, 140);
        Checks.due("not lost", x.packet(0, 5), IN_FLIGHT);
        x.tick(1);
        Checks.due("lost", x.packet(0, 5), LOST);
    }

    /** "Counts: 0 losses, 1 losses that were none, 2 probes, .. 5 harms that counted": of both paths together */
    private static void countsOfThePathOne() {
        Tidewater x = Checks.checked();
        x.use(1);
        x.late(1, 1, 7);
        x.write(0, 40);
        Checks.until(x, 28);
        Checks.due("losses", x.count(0), 1);
        Checks.due("harms", x.count(5), 1);
        Checks.until(x, 33);
        Checks.due("losses that were none", x.count(1), 0);
        x.tick(1);
        Checks.due("losses that were none", x.count(1), 1);
        Checks.due("lost and acknowledged then", x.packet(0, 5) + 10 * x.packet(0, 0), 10 + LOST_AND_ACKNOWLEDGED);
        Checks.due("probes", x.count(2), 0);
        x.lose(1, true, 20);
        x.write(1, 10);
        Checks.until(x, 100);
        Checks.due("probes", x.count(2) > 0, true);
    }
}
