/** What the terms of the document say, in numbers that were found by hand. */
final class TermsTest {
    private TermsTest() {
    }

    public static void main(String[] args) {
        acknowledgesInTime();
        acknowledgesFourRanges();
        harmsByMarks();
        harmsOnceForWhatWasSentAhead();
        growsByRounds();
        growsByACube();
        growsByRates();
        probesDoubleSixTimes();
        sendsByTheSmoothTime();
        sendsBelowTheCredits();
        sendsGoingRound();
        sendsWhatIsLostFirst();
        measuresNothing();
        Checks.end("TermsTest");
    }

    private static void acknowledgesInTime() {
        Tidewater x = Checks.established();
        x.tick(15);
        Checks.due("no data came, none at 20", x.count(4), 0);
        x.write(0, 10);
        x.tick(5);
        Checks.due("came", x.packet(0, 6), 1);
        x.tick(2);
        Checks.due("ahead of 3 ticks", x.count(4), 0);
        x.tick(1);
        Checks.due("3 ticks later", x.count(4), 1);
        x.tick(7);
        Checks.due("ahead of 40", x.count(4), 1);
        x.tick(1);
        Checks.due("at 40", x.count(4), 2);
        x.tick(20);
        Checks.due("at 60", x.count(4), 3);
        x.write(0, 30);
        x.tick(5);
        Checks.due("the second one at once", x.count(4), 4);
        x.tick(3);
        Checks.due("the third one 3 ticks later", x.count(4), 5);
    }

    private static void acknowledgesFourRanges() {
        Tidewater x = Checks.established();
        x.lose(0, false, 20);
        for (int i = 0; i <= 8; i++) {
            x.write(i % 4, 10);
            x.lose(0, true, i % 2);
            x.tick(1);
        }
        x.tick(3);
        x.lose(0, false, 0);
        x.tick(5);
        Checks.due("packets", x.packets() > 9, true);
        for (int i = 2; i <= 8; i += 2) {
            Checks.due("in the ranges: " + i, x.packet(i, 5), 1);
        }
        Checks.due("the fifth range is not told", x.packet(0, 5), 2);
        Checks.due("taken nevertheless", x.packet(0, 6), 1);
        Checks.due("lost by order", x.packet(5, 5), 2);
        Checks.due("one behind it, sent 9 ticks ago: lost by time", x.packet(7, 5), 2);
    }

    private static void harmsByMarks() {
        Tidewater x = Checks.established();
        x.setPath(0, 4, 9, 30, 0);
        x.write(0, 10);
        x.tick(11);
        Checks.due("marked", x.packet(0, 10), 1);
        Checks.due("ahead of it", x.path(0, 0), 160);
        x.tick(1);
        Checks.due("half of 176", x.path(0, 0), 88);
        Checks.due("the bound", x.path(0, 1), 88);
        Checks.due("a harm that counted", x.count(5), 1);
        x.tick(30);
        Checks.due("known already", x.path(0, 0), 88);
        Checks.due("no other harm", x.count(5), 1);
    }

    private static void harmsOnceForWhatWasSentAhead() {
        Tidewater x = Checks.established();
        x.setPath(0, 4, 9, 30, 0);
        x.write(0, 40);
        x.tick(9);
        Checks.due("heard of 0 and 1", x.packet(1, 5), 1);
        Checks.due("half of 192", x.path(0, 0), 96);
        Checks.due("harms", x.count(5), 1);
        x.tick(1);
        Checks.due("heard of 2 and 3", x.packet(3, 5), 1);
        Checks.due("they were sent ahead of it: 256 by 96, 256 by 98", x.path(0, 0), 100);
        Checks.due("harms", x.count(5), 1);
        x.write(1, 10);
        x.tick(20);
        Checks.due("one sent since", x.packet(4, 5), 1);
        Checks.due("harms", x.count(5), 2);
        Checks.due("half of 102", x.path(0, 0), 51);
        Checks.due("the bound", x.path(0, 1), 51);
    }

    /** 0 is lost; 1 to 3 are acknowledged at 18 and 19; 4 has the bytes of 0, and is acknowledged at 30. */
    private static Tidewater harmed(int way) {
        Tidewater x = Checks.established();
        x.setWay(0, way);
        x.write(0, 40);
        x.lose(0, true, 1);
        x.tick(9);
        Checks.due("16 more", x.path(0, 0), way == 2 ? 64 : 176);
        x.tick(1);
        Checks.due("a loss", x.count(0), 1);
        Checks.due("a harm", x.count(5), 1);
        return x;
    }

    private static void growsByRounds() {
        Tidewater x = harmed(0);
        Checks.due("half of 208", x.path(0, 0), 104);
        x.tick(10);
        Checks.due("ahead of it", x.path(0, 0), 104);
        x.tick(1);
        Checks.due("acknowledged", x.packet(4, 5), 1);
        Checks.due("256 by 104 more", x.path(0, 0), 106);
        Checks.due("the bound", x.path(0, 1), 104);
    }

    private static void growsByACube() {
        Tidewater x = harmed(1);
        Checks.due("7 tenths of 208", x.path(0, 0), 145);
        Checks.due("the bound", x.path(0, 1), 145);
        x.tick(11);
        Checks.due("acknowledged", x.packet(4, 5), 1);
        // k is 16: 8192 by 125 is 65, 62 or more; 11 - 16 is -5, its third power, twice, by 125 is -2: the aim is 206
        Checks.due("16 times 61, by 145, more", x.path(0, 0), 151);
        x.write(1, 10);
        x.tick(12);
        Checks.due("acknowledged", x.packet(5, 5), 1);
        // c is 23: 7 times 7 times 7, twice, by 125 is 5: the aim is 213
        Checks.due("16 times 62, by 151, more", x.path(0, 0), 157);
    }

    private static void growsByRates() {
        Tidewater x = Checks.established();
        x.setWay(0, 2);
        x.write(0, 40);
        x.tick(9);
        // 0 and 1, sent 8 ticks ago: 16 by 8, 32 by 8; the measure of 8 counts from then on
        Checks.due("2 times 4, times 9", x.path(0, 0), 72);
        Checks.due("the least measure", x.path(0, 5), 8);
        x.tick(1);
        // 2, sent 9 ticks ago: 48 by 9; 3, sent 8 ticks ago: 64 by 8
        Checks.due("2 times 8, times 8", x.path(0, 0), 128);
        Tidewater y = harmed(2);
        // 1 at 18: 16 by 8; 2 at 19: 32 by 9; 3, sent at 11: 48 by 8; the least measure is 8
        Checks.due("2 times 6, times 8, and no harm to it", y.path(0, 0), 96);
        Checks.due("the bound", y.path(0, 1), 999999);
    }

    private static void probesDoubleSixTimes() {
        Tidewater x = new Tidewater();
        x.connect(-1);
        x.tick(11);
        Checks.due("a measure of 1", x.path(0, 3), 8);
        x.setUp(0, false);
        x.write(0, 10);
        int[] due = {18, 30, 54, 102, 198, 390, 774, 1158, 1542, 1926};
        int next = 0;
        while (x.now() < 2000) {
            x.tick(1);
            if (next < due.length && x.now() == due[next]) {
                next++;
            }
            Checks.due("probes at " + x.now(), x.count(2), next);
        }
        Checks.due("each is in flight", x.path(0, 2), 11);
        Checks.due("none is lost", x.count(0), 0);
    }

    private static void sendsByTheSmoothTime() {
        Tidewater x = Checks.established();
        for (int stream = 0; stream < 4; stream++) {
            x.write(stream, 25);
        }
        x.tick(1);
        Checks.due("20 by 9, rounded up", x.packets(), 3);
        x.tick(1);
        Checks.due("as many more", x.packets(), 6);
        x.tick(2);
        Checks.due("10 packets in flight fill the window", x.path(0, 2), 10);
        x.tick(4);
        Checks.due("nothing was acknowledged", x.packets(), 10);
    }

    private static void sendsBelowTheCredits() {
        Tidewater x = Checks.established();
        for (int stream = 0; stream < 4; stream++) {
            x.write(stream, 200);
        }
        x.tick(50);
        int[] sent = {30, 30, 20, 20};
        for (int stream = 0; stream < 4; stream++) {
            Checks.due("sent", x.stream(stream, 1), sent[stream]);
        }
        x.read(3, 13);
        x.tick(4);
        Checks.due("behind stream 1, of which was sent last", x.stream(2, 1), 30);
        Checks.due("the rest of the credit of all", x.stream(3, 1), 23);
        Checks.due("credit", x.stream(3, 4), 53);
        Checks.due("credit of all", x.credit(), 113);
    }

    private static void sendsGoingRound() {
        Tidewater x = Checks.established();
        x.write(1, 12);
        x.write(3, 25);
        x.tick(2);
        int[] stream = {1, 3, 1, 3, 3};
        int[] first = {0, 0, 10, 10, 20};
        int[] many = {10, 10, 2, 10, 5};
        Checks.due("packets", x.packets(), 5);
        for (int i = 0; i < 5; i++) {
            Checks.due("stream", x.packet(i, 2), stream[i]);
            Checks.due("first", x.packet(i, 3), first[i]);
            Checks.due("many", x.packet(i, 4), many[i]);
        }
    }

    /** The packets 0 and 1 have 3 and 4 bytes of stream 2, one behind the other; both are lost. */
    private static void sendsWhatIsLostFirst() {
        Tidewater x = Checks.established();
        x.lose(0, true, 2);
        x.write(2, 3);
        x.tick(1);
        x.write(2, 4);
        x.tick(1);
        x.write(2, 30);
        x.tick(2);
        x.write(0, 5);
        x.tick(7);
        int lost = -1;
        for (int i = 5; i < x.packets(); i++) {
            if (lost < 0 && x.packet(i, 2) == 2 && x.packet(i, 3) == 0) {
                lost = i;
            }
        }
        Checks.due("sent once more", lost >= 0, true);
        Checks.due("both in one packet", x.packet(lost, 4), 7);
        Checks.due("no probe", x.packet(lost, 8), 0);
        Checks.due("two losses", x.count(0), 2);
        Checks.due("one harm", x.count(5), 1);
    }

    /** COOKIE comes at 13, and behind it in the same tick ACCEPT, which answers an hello without one: a measure of 0. */
    private static void measuresNothing() {
        Tidewater x = new Tidewater();
        x.setPath(0, 6, 9, 30, 30);
        x.setCookies(true);
        x.connect(-1);
        x.tick(9);
        x.setCookies(false);
        x.setPath(0, 1, 9, 30, 30);
        x.tick(1);
        x.setPath(0, 2, 9, 30, 30);
        x.tick(2);
        Checks.due("ahead of both", x.state(0), 1);
        x.write(0, 40);
        x.write(1, 40);
        x.lose(0, true, 9);
        x.tick(1);
        Checks.due("established", x.state(0), 2);
        Checks.due("hellos", x.count(3), 3);
        Checks.due("the time", x.path(0, 3), 0);
        Checks.due("the spread", x.path(0, 4), 0);
        Checks.due("the least measure", x.path(0, 5), 0);
        Checks.due("no time to send by: all at once", x.packets(), 8);
        x.tick(3);
        Checks.due("ahead of the probe", x.count(2), 0);
        x.tick(1);
        Checks.due("0, 1 and 3, together", x.count(2), 1);
        x.setWay(0, 2);
        x.tick(4);
        Checks.due("the probe is acknowledged", x.packet(8, 5), 1);
        Checks.due("by rates, at least 64", x.path(0, 0), 64);
    }
}
