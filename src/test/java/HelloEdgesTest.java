/** The edges that "Hello" and the promises 7 and 10 name, each by a test of its own; the sentence stands above it. */
final class HelloEdgesTest {
    private HelloEdgesTest() {
    }

    public static void main(String[] args) {
        saidAgainAtTenDoubled();
        notSaidAgainWhenAcceptComesAtTen();
        notSaidTwiceWhenCookieComesAtTen();
        cookieBeginsTheTenTicksAnew();
        cookieKnowsNothing();
        cookieAndTheTicket();
        cookieWithACookie();
        cookieWhenEstablished();
        noCookieWhenEstablished();
        acceptAgain();
        acceptWhenEstablishedMeasuresNothing();
        acceptWhenEstablishedRefusesNothing();
        acceptMeasuresFromTheLastHello();
        tickets();
        noTicket();
        earlyDataAtOnce();
        earlyEndsWithHello();
        ticketThatWasUsed();
        refusedWithoutHarm();
        earlyAheadOfHello();
        drainingKnowsNoHello();
        answeredOnThePathByWhichItCame();
        connectOnThePathZero();
        Checks.end("HelloEdgesTest");
    }

    /** Says hello by a delay of 4: HELLO comes at 5, what it is answered with at 9. */
    private static Tidewater fresh() {
        Tidewater x = new Tidewater();
        x.setPath(0, 4, 9, 30, 30);
        x.setPath(1, 4, 9, 30, 30);
        return x;
    }

    private static void setDelay(Tidewater x, int delay) {
        x.setPath(0, delay, 9, 30, 30);
    }

    /** "A hello is said again at 4., when 10 ticks have passed since the last one, doubled each time." */
    private static void saidAgainAtTenDoubled() {
        Tidewater x = new Tidewater();
        x.setUp(0, false);
        x.connect(-1);
        int[] at = {10, 30, 70, 150, 310, 630, 1270};
        for (int i = 0; i < at.length; i++) {
            Checks.until(x, at[i] - 1);
            Checks.due("hellos ahead of " + at[i], x.count(3), 1 + i);
            x.tick(1);
            Checks.due("hellos at " + at[i], x.count(3), 2 + i);
        }
        Checks.until(x, 2000);
        Checks.due("hellos at the end", x.count(3), 8);
        Checks.due("saying hello", x.state(0), 1);
    }

    /** "said again at 4.": what comes at 2. is ahead of it */
    private static void notSaidAgainWhenAcceptComesAtTen() {
        Tidewater x = fresh();
        x.connect(-1);
        x.tick(1);
        setDelay(x, 5);
        Checks.until(x, 9);
        Checks.due("ahead of ACCEPT", x.state(0), 1);
        x.tick(1);
        Checks.due("established", x.state(0), 2);
        Checks.due("not said again", x.count(3), 1);
        Checks.due("10 ticks", x.path(0, 6), 10);
    }

    /** "says hello with it, at once, the 10 ticks beginning anew": at 10 it is said once */
    private static void notSaidTwiceWhenCookieComesAtTen() {
        Tidewater x = fresh();
        x.setCookies(true);
        x.connect(-1);
        x.tick(1);
        setDelay(x, 5);
        Checks.until(x, 9);
        Checks.due("ahead of COOKIE", x.count(3), 1);
        x.tick(1);
        Checks.due("said once", x.count(3), 2);
        Checks.until(x, 19);
        Checks.due("saying hello", x.state(0), 1);
        x.tick(1);
        Checks.due("established", x.state(0), 2);
        Checks.due("not said again", x.count(3), 2);
    }

    /** "the 10 ticks beginning anew", after they were doubled: hellos at 0, 10, 30; COOKIE comes at 38 */
    private static void cookieBeginsTheTenTicksAnew() {
        Tidewater x = fresh();
        x.setCookies(true);
        x.lose(0, true, 2);
        x.connect(-1);
        Checks.until(x, 37);
        Checks.due("hellos", x.count(3), 3);
        x.lose(0, true, 20);
        x.tick(1);
        Checks.due("at once", x.count(3), 4);
        int[] at = {48, 68, 108};
        for (int i = 0; i < at.length; i++) {
            Checks.until(x, at[i] - 1);
            Checks.due("hellos ahead of " + at[i], x.count(3), 4 + i);
            x.tick(1);
            Checks.due("hellos at " + at[i], x.count(3), 5 + i);
        }
    }

    /** "it answers with COOKIE, and knows nothing of it" */
    private static void cookieKnowsNothing() {
        Tidewater x = fresh();
        x.setCookies(true);
        x.connect(-1);
        Checks.until(x, 12);
        Checks.due("the server", x.state(1), 0);
        Checks.due("the client", x.state(0), 1);
        x.tick(1);
        Checks.due("the second HELLO has it", x.state(1), 1);
    }

    /** "takes early data, if there is a ticket, and that was not used before": COOKIE does not use it */
    private static void cookieAndTheTicket() {
        Tidewater x = fresh();
        x.setCookies(true);
        x.write(0, 10);
        x.connect(7);
        Checks.until(x, 8);
        Checks.due("came ahead of the second HELLO", x.packet(0, 6), 2);
        x.write(1, 10);
        Checks.until(x, 17);
        Checks.due("established", x.state(0), 2);
        Checks.due("early, with the second HELLO", x.packet(1, 9) + 10 * x.packet(1, 1), 91);
        Checks.due("taken", x.packet(1, 6), 1);
        // 1 is acknowledged at once, behind ACCEPT, and 0 is lost by time then
        Checks.due("not refused", x.packet(0, 5) * 10 + x.packet(1, 5), 21);
    }

    /** "when COOKIE arrives while it says hello without one": hellos at 0, 10, 13; the second COOKIE comes at 22 */
    private static void cookieWithACookie() {
        Tidewater x = fresh();
        setDelay(x, 6);
        x.setCookies(true);
        x.connect(-1);
        Checks.until(x, 13);
        Checks.due("hellos", x.count(3), 3);
        Checks.until(x, 22);
        Checks.due("the second COOKIE does nothing", x.count(3), 3);
        x.tick(1);
        Checks.due("10 ticks after 13, not after 22", x.count(3), 4);
        x.tick(2);
        Checks.due("established", x.state(0), 2);
    }

    /** "when COOKIE arrives while it says hello": this one comes at 35, the client is established at 18 */
    private static void cookieWhenEstablished() {
        Tidewater x = fresh();
        x.setCookies(true);
        x.connect(-1);
        x.tick(1);
        setDelay(x, 30);
        Checks.until(x, 5);
        setDelay(x, 4);
        x.setCookies(false);
        Checks.until(x, 18);
        Checks.due("established", x.state(0), 2);
        Checks.until(x, 60);
        Checks.due("hellos", x.count(3), 2);
        Checks.due("established still", x.state(0), 2);
    }

    /** "when it is established already, it answers with ACCEPT again", whether or not it asks for cookies by then */
    private static void noCookieWhenEstablished() {
        Tidewater x = fresh();
        x.lose(0, false, 1);
        x.connect(-1);
        Checks.until(x, 5);
        Checks.due("established", x.state(1), 1);
        x.setCookies(true);
        Checks.until(x, 18);
        Checks.due("ACCEPT", x.state(0), 2);
        Checks.due("hellos", x.count(3), 2);
    }

    /** "it answers with ACCEPT again", with what became of the early data */
    private static void acceptAgain() {
        Tidewater x = fresh();
        x.write(0, 10);
        x.lose(0, false, 20);
        x.connect(2);
        Checks.until(x, 13);
        x.lose(0, false, 0);
        Checks.until(x, 18);
        Checks.due("the second ACCEPT", x.state(0), 2);
        Checks.due("taken and not refused", x.packet(0, 6) + 10 * x.packet(0, 5), 1);
    }

    /** "when ACCEPT arrives while it says hello": ACCEPT comes at 14, and again at 18 */
    private static Tidewater acceptedTwice(boolean isStateLost) {
        Tidewater x = fresh();
        x.write(0, 10);
        x.connect(3);
        x.lose(0, true, 1);
        x.tick(1);
        setDelay(x, 9);
        Checks.until(x, 9);
        setDelay(x, 4);
        Checks.until(x, 13);
        if (isStateLost) {
            x.loseState();
        }
        Checks.until(x, 14);
        Checks.due("established", x.state(0), 2);
        Checks.due("hellos", x.count(3), 2);
        return x;
    }

    /** "while it says hello .. the time since the last hello is a measure" */
    private static void acceptWhenEstablishedMeasuresNothing() {
        Tidewater x = acceptedTwice(false);
        Checks.due("4 ticks since the second hello", x.path(0, 6), 4);
        Checks.until(x, 19);
        Checks.due("no measure of 8", x.path(0, 6), 4);
        Checks.due("the time", x.path(0, 3), 32);
        Checks.due("the spread", x.path(0, 4), 8);
    }

    /** "while it says hello .. all early packets in flight are refused": the ACCEPT of 18 takes no early data */
    private static void acceptWhenEstablishedRefusesNothing() {
        Tidewater x = acceptedTwice(true);
        Checks.due("an early packet in flight", x.packet(0, 9) + 10 * x.packet(0, 5), 1);
        Checks.due("gone", x.packet(0, 6), 3);
        Checks.due("established again", x.state(1), 1);
        Checks.until(x, 18);
        Checks.due("in flight still", x.packet(0, 5), 0);
        Checks.due("in flight, and a probe of 16", x.path(0, 2), 2);
    }

    /** "the time since the last hello is a measure of the path 0" */
    private static void acceptMeasuresFromTheLastHello() {
        Tidewater x = fresh();
        x.lose(0, true, 2);
        x.connect(-1);
        Checks.until(x, 37);
        Checks.due("none until then", x.path(0, 3), 80);
        x.tick(1);
        Checks.due("the latest, 8 since 30", x.path(0, 6), 8);
        Checks.due("the least", x.path(0, 5), 8);
        Checks.due("the time", x.path(0, 3), 64);
        Checks.due("the spread", x.path(0, 4), 16);
        Checks.due("none of the path 1", x.path(1, 3) + x.path(1, 6), 90);
    }

    /** "ticket: 0 to 9 for early data" */
    private static void tickets() {
        for (int ticket = 0; ticket <= 9; ticket += 9) {
            Tidewater x = fresh();
            x.write(0, 10);
            x.connect(ticket);
            Checks.until(x, 9);
            Checks.due("early", x.packet(0, 9), 1);
            Checks.due("taken", x.packet(0, 6), 1);
            Checks.due("not refused", x.packet(0, 5), 0);
        }
    }

    /** "-1 for none" */
    private static void noTicket() {
        Tidewater x = fresh();
        x.write(0, 10);
        x.connect(-1);
        Checks.until(x, 8);
        Checks.due("nothing is sent", x.packets(), 0);
        Checks.until(x, 9);
        Checks.due("sent when established", x.packets(), 1);
        Checks.due("not early", x.packet(0, 9), 0);
    }

    /** "it may send data from then on, which is early": at 5. of the next tick */
    private static void earlyDataAtOnce() {
        Tidewater x = fresh();
        x.write(0, 10);
        x.tick(3);
        Checks.due("an idle client sends nothing", x.packets(), 0);
        x.connect(0);
        Checks.due("not at once", x.packets(), 0);
        x.tick(1);
        Checks.due("a tick later", x.packets(), 1);
        Checks.due("early", x.packet(0, 9), 1);
        Checks.due("sent at", x.packet(0, 1), 4);
    }

    /** "which is early": what is sent in the tick in which ACCEPT comes is not */
    private static void earlyEndsWithHello() {
        Tidewater x = fresh();
        x.connect(0);
        Checks.until(x, 7);
        x.write(0, 10);
        x.tick(1);
        x.write(1, 10);
        x.tick(1);
        Checks.due("established", x.state(0), 2);
        Checks.due("sent at 8", x.packet(0, 9), 1);
        Checks.due("sent at 9", x.packet(1, 9), 0);
    }

    /** HELLO comes at 5 and uses the ticket 6; the server loses its state, and is established again at 14. */
    private static Tidewater usedTicket() {
        Tidewater x = fresh();
        x.write(0, 20);
        x.lose(0, false, 20);
        x.connect(6);
        Checks.until(x, 6);
        x.loseState();
        x.lose(0, false, 0);
        Checks.until(x, 12);
        x.write(1, 10);
        Checks.until(x, 17);
        Checks.due("established again", x.state(1), 1);
        return x;
    }

    /** "and that was not used before (it is then)" */
    private static void ticketThatWasUsed() {
        Tidewater x = usedTicket();
        Checks.due("taken by the first use", x.packet(0, 6) + x.packet(1, 6), 2);
        Checks.due("came behind the second HELLO", x.packet(2, 1), 13);
        Checks.due("not taken by the second use", x.packet(2, 6), 2);
        Checks.due("not got", x.stream(1, 5), 0);
    }

    /** "all early packets in flight are refused: they are not in flight any more, without harm to the window" */
    private static void refusedWithoutHarm() {
        Tidewater x = usedTicket();
        Checks.due("in flight", x.path(0, 2), 3);
        x.setUp(0, false);
        x.write(3, 10);
        x.tick(1);
        Checks.due("established", x.state(0), 2);
        for (int i = 0; i < 3; i++) {
            Checks.due("refused", x.packet(i, 5), 4);
        }
        Checks.due("lost bytes are sent ahead of new ones", x.packet(3, 2) * 100 + x.packet(4, 2), 0);
        Checks.due("of the stream 1 then", x.packet(5, 2), 1);
        Checks.due("in flight", x.path(0, 2), x.packets() - 3);
        Checks.due("found anew", x.inFlightAnew(0), x.packets() - 3);
        Checks.due("the window", x.path(0, 0), 160);
        Checks.due("the bound", x.path(0, 1), 999999);
        Checks.due("no loss", x.count(0), 0);
        Checks.due("no harm", x.count(5), 0);
    }

    /** "If it is not established .. none is taken": a packet that comes ahead of HELLO; nothing is answered to it */
    private static void earlyAheadOfHello() {
        Tidewater x = fresh();
        x.write(0, 10);
        x.lose(0, true, 1);
        x.connect(4);
        Checks.until(x, 5);
        Checks.due("not taken", x.packet(0, 6), 2);
        Checks.due("not got", x.stream(0, 5), 0);
        Checks.until(x, 18);
        Checks.due("no RESET; established by the second HELLO", x.state(0), 2);
        Checks.due("early data was taken: not refused", x.packet(0, 5), 0);
        Checks.until(x, 20);
        Checks.due("no acknowledgement of it", x.count(4), 0);
    }

    /** "drains: it .. answers nothing": the first HELLO comes at 55 */
    private static void drainingKnowsNoHello() {
        Tidewater x = fresh();
        x.late(0, 1, 50);
        x.connect(-1);
        Checks.until(x, 18);
        x.close();
        Checks.until(x, 23);
        Checks.due("drains", x.state(1), 2);
        Checks.until(x, 56);
        Checks.due("drains still", x.state(1), 2);
    }

    /** "All is answered on the path by which it came." */
    private static void answeredOnThePathByWhichItCame() {
        Tidewater x = Checks.established();
        x.setUp(0, false);
        x.check(1);
        Checks.until(x, 18);
        Checks.due("RESPONSE by the path 1", x.path(1, 7), 1);
        x.loseState();
        x.check(1);
        Checks.until(x, 27);
        Checks.due("RESET by the path 1", x.state(0), 5);
        Tidewater y = Checks.established();
        y.lose(1, false, 20);
        y.loseState();
        y.check(0);
        Checks.until(y, 18);
        Checks.due("RESET by the path 0", y.state(0), 5);
    }

    /** "To connect it puts HELLO on the path 0": again, too, and the COOKIE and ACCEPT come by it */
    private static void connectOnThePathZero() {
        Tidewater x = fresh();
        x.setUp(1, false);
        x.setCookies(true);
        x.connect(-1);
        Checks.due("in the queue", x.path(0, 8), 1);
        Checks.until(x, 17);
        Checks.due("established", x.state(0), 2);
    }
}
