/**
 * The edges that "Paths, keys, the end" and the promises 9 and 13 to 16 name, each by a test of its own; the sentence
 * stands above it.
 */
final class EndEdgesTest {
    private static final int CLOSING = 3, CLOSED = 4, RESET = 5;
    private static final int DRAINING = 2, LOST_STATE = 3;

    private EndEdgesTest() {
    }

    public static void main(String[] args) {
        pathZeroIsCheckedAndUsed();
        useOfWhatIsNotChecked();
        useAtAnyTime();
        checkedByItsResponse();
        challengeIntoAFullQueue();
        challengeWhileDraining();
        challengeAheadOfClose();
        responseWhileClosing();
        responseWhenClosed();
        responseWhenReset();
        keysAtFirst();
        changeWhatWasAcknowledged();
        changeWhenEstablishedOnly();
        keyBeforeInEightTicks();
        keyBeforeTheOneBefore();
        keyThatIsTheSame();
        closedThirtyTicksLater();
        closeOnTheUsedPath();
        closingSendsNothing();
        closeThatIsGone();
        drainsAtOnce();
        idleDoesNothing();
        loseStateFromEachState();
        loseStateKeepsWhatWasGot();
        loseStateKeepsTheKey();
        loseStateKeepsTheKeyBefore();
        loseStateAndCookies();
        loseStateAheadOfHello();
        loseStateKnowsNoNumbers();
        loseStateKnowsNoMarks();
        loseStateWaitsForNothing();
        loseStateBeginsAtZero();
        resetByWhateverArrives();
        resetWhileSayingHello();
        resetAtTheTickOfClosing();
        resetWhenClosed();
        resetSendsNothing();
        noResetWhenEstablishedAgain();
        Checks.end("EndEdgesTest");
    }

    /** "The path 0 is checked and used at first." */
    private static void pathZeroIsCheckedAndUsed() {
        Tidewater x = new Tidewater();
        Checks.due("the path 0", x.path(0, 7), 1);
        Checks.due("the path 1", x.path(1, 7), 0);
        Checks.due("used", x.state(4), 0);
    }

    /** "if one that is to be used is not checked": 1, and 1 of both */
    private static void useOfWhatIsNotChecked() {
        Tidewater x = Checks.established();
        Checks.refused("use(1)", x, Checks.STATE, () -> x.use(1));
        Checks.refused("use(2)", x, Checks.STATE, () -> x.use(2));
        Checks.due("use(0)", x.use(0), 0);
        Tidewater y = Checks.checked();
        Checks.due("use(2)", y.use(2), 0);
        Checks.due("use(1)", y.use(1), 2);
        Checks.due("use(1)", y.use(1), 1);
        Checks.due("use(0)", y.use(0), 1);
        Checks.refused("use(3)", y, Checks.ARGUMENT, () -> y.use(3));
        Checks.refused("use(-1)", y, Checks.ARGUMENT, () -> y.use(-1));
    }

    /** "Uses a path from now on": no state of the client is asked for */
    private static void useAtAnyTime() {
        Tidewater x = new Tidewater();
        Checks.due("idle", x.use(0), 0);
        Tidewater y = Checks.checked();
        y.close();
        Checks.due("closing", y.use(1), 0);
        Checks.until(y, 60);
        Checks.due("closed", y.use(2), 1);
        Checks.due("used", y.state(4), 2);
    }

    /** "the server, established, answers with RESPONSE; when that arrives the path is checked" */
    private static void checkedByItsResponse() {
        Tidewater x = Checks.established();
        x.check(0);
        Checks.until(x, 30);
        Checks.due("RESPONSE of the path 0 does not check the path 1", x.path(1, 7), 0);
        x.check(1);
        Checks.until(x, 38);
        Checks.due("ahead of it", x.path(1, 7), 0);
        Checks.refused("use", x, Checks.STATE, () -> x.use(1));
        Checks.until(x, 39);
        Checks.due("checked", x.path(1, 7), 1);
        x.check(1);
        Checks.until(x, 60);
        Checks.due("checked again", x.path(1, 7), 1);
    }

    /** "the client puts CHALLENGE on it": "if the queue is full, it is gone" */
    private static void challengeIntoAFullQueue() {
        Tidewater x = Checks.established();
        x.foreign(1, 30);
        x.check(1);
        Checks.due("full", x.path(1, 8), 30);
        Checks.until(x, 60);
        Checks.due("not checked", x.path(1, 7), 0);
    }

    /** "it takes nothing any more, and answers nothing": CLOSE comes at 14, CHALLENGE at 18 */
    private static void challengeWhileDraining() {
        Tidewater x = Checks.established();
        x.setPath(1, 8, 9, 30, 30);
        x.check(1);
        x.close();
        Checks.until(x, 18);
        Checks.due("drains", x.state(1), DRAINING);
        Checks.until(x, 38);
        Checks.due("closing", x.state(0), CLOSING);
        Checks.due("no RESPONSE", x.path(1, 7), 0);
    }

    /** "The server, when CLOSE arrives, drains": CHALLENGE comes a tick ahead of it, or behind it in the same tick */
    private static void challengeAheadOfClose() {
        for (int delay = 3; delay <= 4; delay++) {
            Tidewater x = Checks.established();
            x.setPath(1, delay, 9, 30, 30);
            x.check(1);
            x.close();
            Checks.until(x, 14);
            Checks.due("drains", x.state(1), DRAINING);
            Checks.until(x, 38);
            Checks.due("by a delay of " + delay, x.path(1, 7), delay == 3 ? 1 : 0);
        }
    }

    /** "when that arrives the path is checked": while the client is closing */
    private static void responseWhileClosing() {
        Tidewater x = Checks.established();
        x.lose(0, true, 1);
        x.check(1);
        x.close();
        Checks.until(x, 17);
        Checks.due("closing", x.state(0), CLOSING);
        Checks.due("ahead of it", x.path(1, 7), 0);
        Checks.until(x, 18);
        Checks.due("checked", x.path(1, 7), 1);
    }

    /** "nothing that arrives does anything then, as when it is closed": closed at 39, RESPONSE comes at 44 */
    private static void responseWhenClosed() {
        Tidewater x = Checks.established();
        x.lose(0, true, 1);
        x.check(1);
        x.close();
        x.tick(1);
        x.setPath(1, 30, 9, 30, 30);
        Checks.until(x, 50);
        Checks.due("closed", x.state(0), CLOSED);
        Checks.due("not checked", x.path(1, 7), 0);
    }

    /** "nothing that arrives does anything then": RESET comes at 23, RESPONSE at 44 */
    private static void responseWhenReset() {
        Tidewater x = Checks.established();
        x.check(1);
        x.tick(1);
        x.setPath(1, 30, 9, 30, 30);
        Checks.until(x, 14);
        x.loseState();
        x.check(0);
        Checks.until(x, 23);
        Checks.due("reset", x.state(0), RESET);
        Checks.until(x, 50);
        Checks.due("not checked", x.path(1, 7), 0);
    }

    /** "Each packet of data has a key, 0 at first." */
    private static void keysAtFirst() {
        Tidewater x = Checks.established();
        x.write(0, 10);
        x.tick(1);
        Checks.due("of the client, of the server, of the packet", x.state(2) + x.state(3) + x.packet(0, 7), 0);
    }

    /** "can change it to the next one, if some packet with the one that it has was acknowledged" */
    private static void changeWhatWasAcknowledged() {
        Tidewater x = Checks.established();
        Checks.refused("nothing was sent", x, Checks.STATE, () -> x.changeKey());
        x.write(0, 10);
        Checks.until(x, 20);
        Checks.due("taken", x.packet(0, 6), 1);
        Checks.refused("not acknowledged", x, Checks.STATE, () -> x.changeKey());
        x.tick(1);
        Checks.due("acknowledged: the next one", x.changeKey(), 1);
        Checks.refused("none with it", x, Checks.STATE, () -> x.changeKey());
        x.write(0, 10);
        Checks.until(x, 32);
        Checks.due("taken, with the key 1", x.packet(1, 6) + x.packet(1, 7), 2);
        Checks.refused("one of the key before is not one of it", x, Checks.STATE, () -> x.changeKey());
        x.tick(1);
        Checks.due("the next one", x.changeKey(), 2);
        Checks.due("of the client", x.state(2), 2);
        Checks.due("of the server", x.state(3), 1);
    }

    /** "The client, established, can change it" */
    private static void changeWhenEstablishedOnly() {
        Tidewater x = new Tidewater();
        Checks.refused("idle", x, Checks.STATE, () -> x.changeKey());
        x.connect(-1);
        Checks.refused("saying hello", x, Checks.STATE, () -> x.changeKey());
        Tidewater y = Checks.established();
        y.write(0, 10);
        Checks.until(y, 21);
        y.close();
        Checks.refused("closing", y, Checks.STATE, () -> y.changeKey());
        Checks.until(y, 60);
        Checks.refused("closed", y, Checks.STATE, () -> y.changeKey());
        Tidewater z = Checks.established();
        z.write(0, 10);
        Checks.until(z, 21);
        z.loseState();
        z.check(0);
        Checks.until(z, 30);
        Checks.due("reset", z.state(0), RESET);
        Checks.refused("reset", z, Checks.STATE, () -> z.changeKey());
    }

    /** "and keeps the one before in 8 ticks, this one included; other packets with lesser keys are not taken" */
    private static void keyBeforeInEightTicks() {
        for (int after = 0; after <= 9; after++) {
            Tidewater x = Checks.established();
            x.write(0, 10);
            Checks.until(x, 21);
            x.write(1, 10);
            x.late(0, 1, after + 1);
            x.tick(1);
            x.changeKey();
            x.write(2, 10);
            Checks.until(x, 26);
            Checks.due("of the server", x.state(3), 0);
            x.tick(1);
            Checks.due("a greater one: it has that", x.state(3), 1);
            Checks.until(x, 27 + after);
            Checks.due("with the one before, " + after + " ticks later", x.packet(1, 6), after < 8 ? 1 : 2);
            Checks.due("of the server still", x.state(3), 1);
        }
    }

    /** "keeps the one before ..; other packets with lesser keys are not taken": 2 has the key 0, and comes at 18 */
    private static void keyBeforeTheOneBefore() {
        for (int changes = 1; changes <= 2; changes++) {
            Tidewater x = Checks.established();
            x.setPath(0, 1, 9, 30, 30);
            x.write(0, 20);
            Checks.until(x, 11);
            x.late(0, 1, 5);
            x.write(1, 10);
            x.tick(1);
            x.changeKey();
            x.write(2, 20);
            Checks.until(x, 15);
            if (changes == 2) {
                x.changeKey();
            }
            x.write(3, 10);
            Checks.until(x, 17);
            Checks.due("of the server", x.state(3), changes);
            Checks.due("under way", x.packet(2, 6), 0);
            x.tick(1);
            Checks.due("the key 0 behind " + changes, x.packet(2, 6), changes == 1 ? 1 : 2);
        }
    }

    /** "when a packet with a greater key than its own arrives": one with the same key does not begin the 8 ticks anew */
    private static void keyThatIsTheSame() {
        Tidewater x = Checks.established();
        x.write(0, 10);
        Checks.until(x, 21);
        x.write(1, 10);
        x.late(0, 1, 9);
        x.tick(1);
        x.changeKey();
        x.write(2, 10);
        Checks.until(x, 28);
        x.write(3, 10);
        Checks.until(x, 33);
        Checks.due("another one with the key 1 came", x.state(3), 1);
        Checks.until(x, 35);
        Checks.due("8 ticks behind the first one", x.packet(1, 6), 2);
    }

    /** "30 ticks later (at 4.) it is closed" */
    private static void closedThirtyTicksLater() {
        Tidewater x = Checks.established();
        x.close();
        Checks.due("closing", x.state(0), CLOSING);
        Checks.until(x, 38);
        Checks.due("29 ticks later", x.state(0), CLOSING);
        x.tick(1);
        Checks.due("30 ticks later", x.state(0), CLOSED);
        Checks.until(x, 300);
        Checks.due("for good", x.state(0), CLOSED);
        Checks.refused("connect", x, Checks.STATE, () -> x.connect(-1));
    }

    /** "CLOSE is put on the path that is used, the lower one of both" */
    private static void closeOnTheUsedPath() {
        for (int used = 0; used <= 2; used++) {
            Tidewater x = Checks.checked();
            x.use(used);
            x.close();
            Checks.due("on the path 0", x.path(0, 8), used == 1 ? 0 : 1);
            Checks.due("on the path 1", x.path(1, 8), used == 1 ? 1 : 0);
            Checks.until(x, 23);
            Checks.due("drains", x.state(1), DRAINING);
        }
    }

    /** "It sends no data then": nothing new, and nothing that is lost */
    private static void closingSendsNothing() {
        Tidewater x = Checks.established();
        x.lose(0, true, 1);
        x.write(0, 40);
        Checks.until(x, 11);
        x.lose(0, true, 1);
        x.close();
        x.write(1, 40);
        Checks.until(x, 200);
        Checks.due("lost", x.stream(0, 3), 10);
        Checks.due("nothing new", x.stream(1, 1), 0);
        Checks.due("packets", x.packets(), 4);
    }

    /** "30 ticks later (at 4.) it is closed": the server may never hear of it */
    private static void closeThatIsGone() {
        Tidewater x = Checks.established();
        x.setUp(0, false);
        x.close();
        Checks.until(x, 100);
        Checks.due("closed", x.state(0), CLOSED);
        Checks.due("the server", x.state(1), 1);
    }

    /** "The server, when CLOSE arrives, drains: it takes nothing any more": from the next packet of the tick on */
    private static void drainsAtOnce() {
        Tidewater x = Checks.established();
        x.late(0, 2, 1);
        x.write(0, 20);
        x.tick(1);
        x.close();
        Checks.until(x, 15);
        Checks.due("what left ahead of it is taken", x.packet(0, 6) + x.packet(1, 6), 2);
        Checks.due("drains", x.state(1), DRAINING);
        Tidewater y = Checks.established();
        y.late(0, 2, 2);
        y.write(0, 20);
        y.tick(1);
        y.close();
        Checks.until(y, 16);
        Checks.due("not taken", y.packet(0, 6) + y.packet(1, 6), 4);
        Checks.due("not got", y.stream(0, 5), 0);
        Checks.due("drains still", y.state(1), DRAINING);
    }

    /** "0 idle": it sends nothing, says no hello and is never closed */
    private static void idleDoesNothing() {
        Tidewater x = new Tidewater();
        x.write(0, 200);
        Checks.until(x, 100);
        Checks.due("idle", x.state(0), 0);
        Checks.due("packets", x.packets(), 0);
        Checks.due("hellos", x.count(3), 0);
        Checks.due("in the queues", x.path(0, 8) + x.path(1, 8), 0);
        Checks.refused("check", x, Checks.STATE, () -> x.check(0));
        Checks.refused("close", x, Checks.STATE, () -> x.close());
    }

    /** "The server can lose its state: it is not established and not draining" */
    private static void loseStateFromEachState() {
        Tidewater x = new Tidewater();
        x.loseState();
        Checks.due("from not established", x.state(1), LOST_STATE);
        x.loseState();
        Checks.due("twice", x.state(1), LOST_STATE);
        Tidewater y = Checks.established();
        y.loseState();
        Checks.due("from established", y.state(1), LOST_STATE);
        Tidewater z = Checks.established();
        z.write(0, 10);
        z.late(0, 1, 6);
        z.tick(1);
        z.close();
        Checks.until(z, 19);
        Checks.due("draining", z.state(1), DRAINING);
        z.loseState();
        Checks.due("from draining", z.state(1), LOST_STATE);
        Checks.until(z, 24);
        Checks.due("it answers what arrives at 20", z.state(0), RESET);
    }

    /** "(what was got of streams, what was read .. stay)" */
    private static void loseStateKeepsWhatWasGot() {
        Tidewater x = Checks.established();
        x.write(0, 20);
        Checks.until(x, 30);
        x.read(0, 7);
        x.loseState();
        Checks.due("got", x.stream(0, 5), 20);
        Checks.due("found anew", x.gotAnew(0), 20);
        Checks.due("read", x.stream(0, 6), 7);
        Checks.due("can be read", x.read(0, 200), 13);
    }

    /** "its key .. stay": the server has the key 1 */
    private static void loseStateKeepsTheKey() {
        Tidewater x = Checks.established();
        x.write(0, 10);
        Checks.until(x, 21);
        x.changeKey();
        x.write(0, 10);
        Checks.until(x, 26);
        Checks.due("of the server", x.state(3), 1);
        x.loseState();
        Checks.due("of the server", x.state(3), 1);
        Checks.due("of the client", x.state(2), 1);
    }

    /**
     * "keeps the one before in 8 ticks", and what the state's loss names is not that one: 2 brings the key 1 at 54, and
     * 1, with the key 0, comes at 61 or 62; between them the state is lost, and the late HELLO comes at 55.
     */
    private static void loseStateKeepsTheKeyBefore() {
        for (int more = 0; more <= 1; more++) {
            Tidewater x = new Tidewater();
            x.setPath(0, 4, 9, 30, 30);
            x.late(0, 1, 50);
            x.connect(-1);
            Checks.until(x, 30);
            x.write(0, 10);
            Checks.until(x, 46);
            Checks.due("acknowledged", x.packet(0, 5), 1);
            x.write(0, 10);
            x.late(0, 1, 10 + more);
            Checks.until(x, 49);
            Checks.due("the key", x.changeKey(), 1);
            x.write(0, 10);
            Checks.until(x, 54);
            Checks.due("of the server", x.state(3), 1);
            x.loseState();
            x.tick(1);
            Checks.due("established again", x.state(1), 1);
            Checks.until(x, 60 + more);
            Checks.due("under way", x.packet(1, 6) * 10 + x.packet(1, 7), 0);
            x.tick(1);
            Checks.due("with the one before", x.packet(1, 6), 1 + more);
        }
    }

    /** "if it asks for cookies, and there is none in it, it answers with COOKIE, and knows nothing of it" */
    private static void loseStateAndCookies() {
        Tidewater x = new Tidewater();
        x.setPath(0, 4, 9, 30, 30);
        x.loseState();
        x.setCookies(true);
        x.connect(-1);
        Checks.until(x, 12);
        Checks.due("hellos", x.count(3), 2);
        Checks.due("it lost its state", x.state(1), LOST_STATE);
        x.tick(1);
        Checks.due("established", x.state(1), 1);
    }

    /** "answers whatever arrives but HELLO with RESET" */
    private static void loseStateAheadOfHello() {
        Tidewater x = new Tidewater();
        x.setPath(0, 4, 9, 30, 30);
        x.loseState();
        x.connect(-1);
        Checks.until(x, 5);
        Checks.due("established", x.state(1), 1);
        Checks.until(x, 9);
        Checks.due("not reset", x.state(0), 2);
    }

    /** "answers whatever arrives but HELLO with RESET": data, CHALLENGE, CLOSE */
    private static void resetByWhateverArrives() {
        for (int kind = 0; kind < 3; kind++) {
            Tidewater x = Checks.established();
            x.loseState();
            if (kind == 0) {
                x.write(0, 10);
            } else if (kind == 1) {
                x.check(0);
            } else {
                x.close();
            }
            Checks.until(x, 17);
            Checks.due("ahead of RESET, by " + kind, x.state(0), kind == 2 ? CLOSING : 2);
            x.tick(1);
            Checks.due("reset, by " + kind, x.state(0), RESET);
            Checks.due("it lost its state still", x.state(1), LOST_STATE);
        }
    }

    /** "when that arrives the client is reset, unless it is idle or closed": while it says hello */
    private static void resetWhileSayingHello() {
        Tidewater x = new Tidewater();
        x.setPath(0, 4, 9, 30, 30);
        x.loseState();
        x.write(0, 10);
        x.lose(0, true, 1);
        x.connect(1);
        Checks.until(x, 8);
        Checks.due("saying hello", x.state(0), 1);
        x.tick(1);
        Checks.due("reset", x.state(0), RESET);
        Checks.until(x, 100);
        Checks.due("no hello any more", x.count(3), 1);
        Checks.due("no probe any more", x.count(2), 0);
    }

    /** "30 ticks later (at 4.) it is closed": RESET comes at 2. of that tick */
    private static void resetAtTheTickOfClosing() {
        Tidewater x = Checks.established();
        x.loseState();
        x.late(0, 1, 21);
        x.close();
        Checks.until(x, 38);
        Checks.due("closing", x.state(0), CLOSING);
        x.tick(1);
        Checks.due("reset", x.state(0), RESET);
        x.tick(1);
        Checks.due("for good", x.state(0), RESET);
    }

    /** "the client is reset, unless it is idle or closed": RESET comes at 40 */
    private static void resetWhenClosed() {
        Tidewater x = Checks.established();
        x.loseState();
        x.late(0, 1, 22);
        x.close();
        Checks.until(x, 39);
        Checks.due("closed", x.state(0), CLOSED);
        Checks.until(x, 50);
        Checks.due("closed still", x.state(0), CLOSED);
    }

    /** "it sends nothing any more" */
    private static void resetSendsNothing() {
        Tidewater x = Checks.established();
        x.loseState();
        x.write(0, 40);
        Checks.until(x, 18);
        Checks.due("reset", x.state(0), RESET);
        int packets = x.packets();
        x.write(1, 40);
        Checks.until(x, 200);
        Checks.due("packets", x.packets(), packets);
        Checks.due("probes", x.count(2), 0);
        Checks.due("not taken", x.packet(0, 6), 2);
        Checks.due("in flight still", x.path(0, 2), packets);
        Checks.refused("connect", x, Checks.STATE, () -> x.connect(0));
        Checks.refused("check", x, Checks.STATE, () -> x.check(0));
        Checks.refused("close", x, Checks.STATE, () -> x.close());
    }

    /** "It does so no more when it is established again.": by the first HELLO, which comes at 55 */
    private static void noResetWhenEstablishedAgain() {
        Tidewater x = new Tidewater();
        x.setPath(0, 4, 9, 30, 30);
        x.late(0, 1, 50);
        x.connect(-1);
        Checks.until(x, 50);
        x.loseState();
        Checks.until(x, 54);
        Checks.due("it lost its state", x.state(1), LOST_STATE);
        x.write(0, 10);
        x.tick(1);
        Checks.due("established again", x.state(1), 1);
        x.check(1);
        Checks.until(x, 70);
        Checks.due("taken", x.packet(0, 6), 1);
        Checks.due("RESPONSE", x.path(1, 7), 1);
        Checks.due("not reset", x.state(0), 2);
    }

    /** Established at 18, and the server again at 55, since it loses its state at 46; 0 and 1 were sent at 41. */
    private static Tidewater establishedTwice(int bytes, int mark, boolean isHeard) {
        Tidewater x = new Tidewater();
        x.setPath(0, 4, 9, 30, mark);
        x.late(0, 1, 50);
        x.connect(-1);
        Checks.until(x, 40);
        x.write(0, bytes);
        Checks.until(x, 44);
        x.lose(0, false, isHeard ? 0 : 1);
        Checks.until(x, 46);
        Checks.due("taken", x.packet(0, 6) + x.packet(1, 6), 2);
        x.loseState();
        Checks.until(x, 55);
        Checks.due("established again", x.state(1), 1);
        return x;
    }

    /** "has got no packets": it acknowledges 2 alone, and 0 and 1 are lost by time */
    private static void loseStateKnowsNoNumbers() {
        Tidewater x = establishedTwice(20, 30, false);
        x.write(1, 10);
        Checks.until(x, 63);
        Checks.due("none is acknowledged", x.packet(0, 5) + x.packet(1, 5) + x.packet(2, 5), 0);
        x.tick(1);
        Checks.due("2 is acknowledged", x.packet(2, 5), 1);
        Checks.due("0 and 1 are lost", x.packet(0, 5) + 10 * x.packet(1, 5), 22);
        Checks.due("what was got stays", x.stream(0, 5), 20);
    }

    /** "has got no packets": so that none of them was marked; 2 marks are not more than the 2 that the client knows */
    private static void loseStateKnowsNoMarks() {
        Tidewater x = establishedTwice(20, 0, true);
        Checks.due("a harm by 2 marks", x.count(5), 1);
        x.write(1, 20);
        Checks.until(x, 64);
        Checks.due("2 and 3 are acknowledged", x.packet(2, 5) + x.packet(3, 5), 2);
        Checks.due("marked", x.packet(2, 10) + x.packet(3, 10), 2);
        Checks.due("no other harm", x.count(5), 1);
        Tidewater y = establishedTwice(20, 30, true);
        y.write(1, 20);
        Checks.until(y, 64);
        Checks.due("2 and 3 are acknowledged", y.packet(2, 5) + y.packet(3, 5), 2);
        Checks.due("no harm", y.count(5), 0);
    }

    /** "has got no packets": 0 came at 13 and waits until 16; 1, which is not taken, comes behind the second HELLO */
    private static void loseStateWaitsForNothing() {
        Tidewater x = new Tidewater();
        x.setPath(0, 12, 9, 30, 30);
        x.write(0, 10);
        x.connect(1);
        Checks.until(x, 9);
        x.setPath(0, 4, 9, 30, 30);
        x.tick(1);
        x.write(1, 10);
        Checks.until(x, 13);
        Checks.due("taken", x.packet(0, 6), 1);
        x.loseState();
        Checks.until(x, 15);
        Checks.due("established again", x.state(1), 1);
        Checks.due("not taken", x.packet(1, 6), 2);
        Checks.until(x, 19);
        Checks.due("nothing is acknowledged", x.count(4), 0);
        x.tick(1);
        Checks.due("at 20", x.count(4), 1);
    }

    /** "has got no packets": 2 waits when the state is lost; 0 is late, and then the first one that is taken */
    private static void loseStateBeginsAtZero() {
        Tidewater x = new Tidewater();
        x.setPath(0, 4, 9, 30, 30);
        x.late(0, 1, 50);
        x.connect(-1);
        Checks.until(x, 49);
        x.late(0, 1, 2);
        x.write(0, 30);
        Checks.until(x, 54);
        Checks.due("at once for 1, not for 2", x.count(4) * 10 + x.packet(2, 6), 11);
        x.loseState();
        Checks.until(x, 56);
        Checks.due("0 is taken", x.packet(0, 6), 1);
        Checks.due("it waits", x.count(4), 1);
        Checks.until(x, 58);
        Checks.due("it waits", x.count(4), 1);
        x.tick(1);
        Checks.due("3 ticks later", x.count(4), 2);
    }
}
