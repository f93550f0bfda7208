/** Promises 7 to 9: setCookies, read, loseState. */
final class ServerCallsTest {
    private ServerCallsTest() {
    }

    public static void main(String[] args) {
        cookiesAreAskedFor();
        cookieIsSaidOnce();
        readsInOrder();
        readingGivesCredit();
        readRefuses();
        losesStateAndResets();
        losesStateWhenever();
        losesStateAndIsFoundAgain();
        losesWhatItKnewOfMarks();
        losesWhatItHadToAcknowledge();
        Checks.end("ServerCallsTest");
    }

    private static void cookiesAreAskedFor() {
        Tidewater x = new Tidewater();
        Checks.due("setCookies(true)", x.setCookies(true), false);
        Checks.due("setCookies(true) again", x.setCookies(true), true);
        Checks.due("setCookies(false)", x.setCookies(false), true);
        x.setCookies(true);
        x.setPath(0, 4, 2, 8, 6);
        x.connect(-1);
        x.tick(5);
        Checks.due("HELLO came, the server", x.state(1), 0);
        x.tick(4);
        Checks.due("COOKIE came, hellos", x.count(3), 2);
        x.tick(3);
        Checks.due("ahead of the second HELLO", x.state(1), 0);
        x.tick(1);
        Checks.due("HELLO with it came", x.state(1), 1);
        x.tick(3);
        Checks.due("ahead of ACCEPT", x.state(0), 1);
        x.tick(1);
        Checks.due("ACCEPT came", x.state(0), 2);
        Checks.due("the 10 ticks began anew", x.count(3), 2);
        Checks.due("since the last hello", x.path(0, 6), 8);
    }

    private static void cookieIsSaidOnce() {
        Tidewater x = new Tidewater();
        x.setCookies(true);
        x.connect(-1);
        x.tick(21);
        Checks.due("the second COOKIE says no hello", x.count(3), 3);
        Checks.due("established", x.state(0), 2);
        x = new Tidewater();
        x.setCookies(true);
        x.setPath(0, 4, 2, 8, 6);
        x.lose(0, true, 0);
        x.connect(-1);
        x.tick(8);
        x.lose(0, true, 3);
        x.tick(1);
        Checks.due("hellos", x.count(3), 2);
        x.tick(9);
        Checks.due("hellos ahead of 10 ticks", x.count(3), 2);
        x.tick(1);
        Checks.due("hellos after 10 ticks", x.count(3), 3);
        x.tick(19);
        Checks.due("hellos ahead of 20 more", x.count(3), 3);
        x.tick(1);
        Checks.due("hellos after 20 more", x.count(3), 4);
        x.tick(39);
        Checks.due("hellos ahead of 40 more", x.count(3), 4);
        x.tick(1);
        Checks.due("hellos after 40 more", x.count(3), 5);
        x.tick(4);
        Checks.due("said with the cookie", x.state(1), 1);
    }

    private static void readsInOrder() {
        Tidewater x = Checks.established();
        Checks.due("nothing to read", x.read(0, 200), 0);
        x.write(0, 30);
        x.lose(0, true, 1);
        x.tick(5);
        Checks.due("got", x.packet(1, 6), 1);
        Checks.due("not in order", x.read(0, 200), 0);
        Checks.due("in order", x.stream(0, 5), 0);
        x.tick(25);
        Checks.due("sent once more", x.stream(0, 5), 30);
        Checks.due("read", x.read(0, 1), 1);
        Checks.due("read", x.read(0, 28), 28);
        Checks.due("the last one", x.read(0, 200), 1);
        Checks.due("no more", x.read(0, 1), 0);
        Checks.due("were read", x.stream(0, 6), 30);
        Checks.due("of another stream", x.read(3, 200), 0);
    }

    private static void readingGivesCredit() {
        Tidewater x = Checks.established();
        x.write(1, 60);
        x.tick(20);
        Checks.due("sent below the credit", x.stream(1, 1), 40);
        int acks = x.count(4);
        Checks.due("read", x.read(1, 7), 7);
        Checks.due("an acknowledgement is put at once", x.count(4), acks + 1);
        Checks.due("credit there", x.stream(1, 4), 40);
        Checks.due("nothing to read", x.read(2, 7), 0);
        Checks.due("none is put", x.count(4), acks + 1);
        x.tick(3);
        Checks.due("credit ahead of it", x.stream(1, 4), 40);
        x.tick(1);
        Checks.due("credit", x.stream(1, 4), 47);
        Checks.due("credit of another", x.stream(0, 4), 40);
        Checks.due("credit of all", x.credit(), 107);
        Checks.due("sent", x.stream(1, 1), 47);
        x.close();
        x.tick(5);
        Checks.due("draining", x.state(1), 2);
        acks = x.count(4);
        Checks.due("what was got can be read", x.read(1, 200), 40);
        Checks.due("none is put", x.count(4), acks);
    }

    private static void readRefuses() {
        Tidewater x = Checks.established();
        x.write(0, 20);
        x.tick(10);
        Checks.refused("read", x, Checks.INDEX, () -> x.read(4, 0));
        Checks.refused("read", x, Checks.INDEX, () -> x.read(-1, 1));
        Checks.refused("read", x, Checks.ARGUMENT, () -> x.read(0, 0));
        Checks.refused("read", x, Checks.ARGUMENT, () -> x.read(0, 201));
        Checks.refused("read", x, Checks.ARGUMENT, () -> x.read(3, Integer.MIN_VALUE));
        Checks.due("all is there still", x.read(0, 200), 20);
    }

    private static void losesStateAndResets() {
        Tidewater x = Checks.established();
        x.write(0, 20);
        x.tick(10);
        x.read(0, 5);
        int acks = x.count(4);
        x.loseState();
        Checks.due("the server", x.state(1), 3);
        Checks.due("what was got stays", x.stream(0, 5), 20);
        Checks.due("what was read stays", x.stream(0, 6), 5);
        Checks.due("it can be read", x.read(0, 10), 10);
        x.tick(20);
        Checks.due("none is put", x.count(4), acks);
        Checks.due("the client knows nothing of it", x.state(0), 2);
        x.write(0, 10);
        x.tick(5);
        Checks.due("not taken", x.packet(2, 6), 2);
        Checks.due("ahead of RESET", x.state(0), 2);
        x.tick(4);
        Checks.due("reset", x.state(0), 5);
        x.write(0, 10);
        x.tick(50);
        Checks.due("it sends nothing any more", x.packets(), 3);
        Checks.due("nor probes", x.count(2), 0);
        Checks.refused("connect", x, Checks.STATE, () -> x.connect(-1));
        Checks.refused("check", x, Checks.STATE, () -> x.check(0));
        Checks.refused("close", x, Checks.STATE, () -> x.close());
        Checks.refused("changeKey", x, Checks.STATE, () -> x.changeKey());
    }

    private static void losesStateWhenever() {
        Tidewater x = new Tidewater();
        x.loseState();
        Checks.due("a server that was not established", x.state(1), 3);
        x.write(0, 10);
        x.lose(0, true, 1);
        x.connect(1);
        x.tick(6);
        Checks.due("early data came", x.packet(0, 6), 2);
        x.tick(5);
        Checks.due("reset while saying hello", x.state(0), 5);
        x = Checks.established();
        x.loseState();
        x.check(0);
        x.tick(9);
        Checks.due("CHALLENGE is answered with RESET", x.state(0), 5);
        x = Checks.established();
        x.loseState();
        x.close();
        x.tick(9);
        Checks.due("CLOSE is answered with RESET", x.state(0), 5);
        Checks.due("it does not drain", x.state(1), 3);
        x = Checks.established();
        x.close();
        x.tick(5);
        x.loseState();
        Checks.due("it drains no more", x.state(1), 3);
    }

    /** HELLO with the ticket 6 comes at 5, the one that is said again comes late. */
    private static void losesStateAndIsFoundAgain() {
        Tidewater x = new Tidewater();
        x.setPath(0, 4, 9, 30, 30);
        x.write(0, 30);
        x.lose(0, false, 20);
        x.connect(6);
        x.tick(10);
        Checks.due("established, early data taken", x.stream(0, 5), 30);
        Checks.due("early", x.packet(0, 9), 1);
        x.tick(1);
        x.loseState();
        x.lose(0, false, 0);
        x.tick(7);
        Checks.due("established again by the second HELLO", x.state(1), 1);
        Checks.due("the ACCEPT of it", x.state(0), 2);
        Checks.due("the ticket was used: refused", x.packet(0, 5), 4);
        Checks.due("they are lost bytes, sent at once", x.packets(), 6);
        Checks.due("not early", x.packet(3, 9), 0);
        Checks.due("in flight", x.path(0, 2), 3);
        Checks.due("no loss", x.count(0), 0);
        Checks.due("no harm to the window", x.path(0, 0), 160);
        Checks.due("what was got stays", x.stream(0, 5), 30);
        x.tick(4);
        Checks.due("it has got no packets: 3 is not just behind", x.count(4), 4);
        x.tick(8);
        Checks.due("acknowledged", x.packet(3, 5), 1);
        Checks.due("refused for good", x.packet(0, 5), 4);
    }

    /** The first HELLO is late and comes at 55; the second one establishes. */
    private static Tidewater establishedAheadOfAnHello() {
        Tidewater x = new Tidewater();
        x.setPath(0, 4, 9, 30, 30);
        x.late(0, 1, 50);
        x.connect(-1);
        x.tick(18);
        Checks.due("established", x.state(0), 2);
        return x;
    }

    private static void losesWhatItKnewOfMarks() {
        Tidewater x = establishedAheadOfAnHello();
        x.setPath(0, 4, 9, 30, 0);
        x.write(0, 20);
        x.tick(9);
        Checks.due("a harm by 2 marks", x.count(5), 1);
        x.tick(24);
        x.loseState();
        x.write(0, 10);
        x.tick(4);
        Checks.due("established again", x.state(1), 1);
        x.tick(1);
        Checks.due("taken", x.packet(2, 6) + 2 * x.packet(2, 10), 3);
        Checks.due("as the first one, it is not just behind: at once", x.count(4), 3);
        x.tick(4);
        Checks.due("acknowledged", x.packet(2, 5), 1);
        Checks.due("1 mark is not more than 2", x.count(5), 1);
        Checks.due("not reset", x.state(0), 2);
    }

    /** 1 and 2 are taken at 54; 0 is late and comes after the HELLO of 55: it is the first one then. */
    private static void losesWhatItHadToAcknowledge() {
        Tidewater x = establishedAheadOfAnHello();
        x.tick(31);
        x.write(0, 30);
        x.late(0, 1, 2);
        x.tick(5);
        Checks.due("1 was not just behind", x.count(4), 1);
        Checks.due("2 waits", x.packet(2, 6), 1);
        x.loseState();
        x.tick(1);
        Checks.due("established again", x.state(1), 1);
        x.tick(1);
        Checks.due("0 is taken", x.packet(0, 6), 1);
        x.tick(2);
        Checks.due("0 is the first one, and waits", x.count(4), 1);
        x.tick(1);
        Checks.due("3 ticks later", x.count(4), 2);
    }
}
