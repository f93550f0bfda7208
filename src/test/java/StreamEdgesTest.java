/** The edges that "Streams, credits" and the promises 8 and 11 name, each by a test of its own; the sentence above it. */
final class StreamEdgesTest {
    private StreamEdgesTest() {
    }

    public static void main(String[] args) {
        wholeStream();
        allStreamsToTheirEnds();
        bytesOfAPacket();
        manyLostBytes();
        lostBytesEndAtWhatIsNotLost();
        lowestLostStream();
        roundBeginsAtZero();
        roundWrapsAround();
        roundComesBackToOne();
        roundForgetsWhatWasLost();
        roundForgetsProbes();
        creditOfAStream();
        creditWithinAPacket();
        creditOfAll();
        creditOfAllWithinAPacket();
        streamWithoutCreditIsPassedOver();
        lostBytesNeedNoCredit();
        lostInNoPacketInFlight();
        acknowledgedOnce();
        creditsThatAreTold();
        creditsThatAreLess();
        readsWhatIsThere();
        readsBehindAGap();
        oneLostByte();
        gotOfEachStream();
        Checks.end("StreamEdgesTest");
    }

    private static void isPacket(Tidewater x, int packet, int stream, int first, int many) {
        Checks.due("packets", x.packets() > packet, true);
        if (x.packets() > packet) {
            Checks.due("stream of " + packet, x.packet(packet, 2), stream);
            Checks.due("first of " + packet, x.packet(packet, 3), first);
            Checks.due("many of " + packet, x.packet(packet, 4), many);
        }
    }

    /** "each of at most 200 bytes that are written": all 200 go through; "if there would be more than 200" */
    private static void wholeStream() {
        Tidewater x = Checks.established();
        Checks.due("write", x.write(3, 199), 199);
        Checks.refused("2 more", x, Checks.STATE, () -> x.write(3, 2));
        Checks.due("1 more", x.write(3, 1), 200);
        Checks.refused("none more", x, Checks.STATE, () -> x.write(3, 1));
        int read = 0;
        for (int i = 0; i < 60; i++) {
            x.tick(5);
            read += x.read(3, 200);
        }
        Checks.due("read", read, 200);
        Checks.due("sent", x.stream(3, 1), 200);
        Checks.due("acknowledged", x.stream(3, 2), 200);
        Checks.due("lost", x.stream(3, 3), 0);
        Checks.due("credit", x.stream(3, 4), 240);
        Checks.due("got", x.stream(3, 5), 200);
        Checks.due("found anew", x.gotAnew(3), 200);
        isPacket(x, x.packets() - 1, 3, 190, 10);
    }

    /** "There are the streams 0 to 3, each of at most 200 bytes": 800 bytes, with losses; "once and in order" */
    private static void allStreamsToTheirEnds() {
        Tidewater x = Checks.established();
        for (int stream = 0; stream < 4; stream++) {
            x.write(stream, 200);
        }
        int read = 0;
        for (int i = 0; i < 80; i++) {
            x.lose(0, i % 2 == 0, 1);
            x.tick(10);
            read += x.read(i % 4, 200);
        }
        for (int stream = 0; stream < 4; stream++) {
            read += x.read(stream, 200);
            Checks.due("got", x.stream(stream, 5), 200);
            Checks.due("read", x.stream(stream, 6), 200);
            Checks.due("no more to read", x.read(stream, 200), 0);
        }
        Checks.due("read once", read, 800);
    }

    /** "A packet of data has up to 10 bytes of one stream, one behind the other." */
    private static void bytesOfAPacket() {
        int[] written = {1, 9, 10, 11, 20, 21};
        for (int bytes : written) {
            Tidewater x = Checks.established();
            x.write(1, bytes);
            x.tick(1);
            Checks.due("packets of " + bytes, x.packets(), (bytes + 9) / 10);
            for (int i = 0; i < x.packets(); i++) {
                isPacket(x, i, 1, 10 * i, Math.min(10, bytes - 10 * i));
            }
        }
    }

    /** "from the lowest one of these on, as many as are lost one behind the other", up to 10: 25 are lost */
    private static void manyLostBytes() {
        Tidewater x = Checks.established();
        x.lose(0, true, 3);
        x.write(0, 25);
        x.tick(1);
        x.write(1, 30);
        Checks.until(x, 22);
        Checks.due("losses", x.count(0), 3);
        isPacket(x, 6, 0, 0, 10);
        isPacket(x, 7, 0, 10, 10);
        isPacket(x, 8, 0, 20, 5);
    }

    /** "as many as are lost one behind the other": 0 to 2 and 7 to 11 are lost, 3 to 6 are acknowledged */
    private static void lostBytesEndAtWhatIsNotLost() {
        Tidewater x = Checks.established();
        x.lose(0, true, 1);
        x.lose(0, false, 1);
        x.write(2, 3);
        x.tick(1);
        x.write(2, 4);
        x.tick(1);
        x.lose(0, true, 1);
        x.write(2, 5);
        x.tick(1);
        x.write(0, 30);
        Checks.until(x, 20);
        Checks.due("nothing is known yet", x.packets(), 6);
        x.tick(1);
        Checks.due("losses", x.count(0), 2);
        isPacket(x, 6, 2, 0, 3);
        isPacket(x, 7, 2, 7, 5);
    }

    /** "the lowest stream that has bytes that are lost": 2 was sent ahead of 0 */
    private static void lowestLostStream() {
        Tidewater x = Checks.established();
        x.lose(0, true, 2);
        x.write(2, 10);
        x.tick(1);
        x.write(0, 10);
        x.tick(1);
        x.write(3, 30);
        Checks.until(x, 20);
        Checks.due("losses", x.count(0), 2);
        isPacket(x, 5, 0, 0, 10);
        isPacket(x, 6, 2, 0, 10);
    }

    /** "going round from behind the stream of which new bytes were sent last": none was at first */
    private static void roundBeginsAtZero() {
        Tidewater x = Checks.established();
        for (int stream = 3; stream >= 0; stream--) {
            x.write(stream, 10);
        }
        x.tick(2);
        for (int i = 0; i < 4; i++) {
            isPacket(x, i, i, 0, 10);
        }
    }

    /** "going round": from 2 to 3, and from 3 to 0 */
    private static void roundWrapsAround() {
        Tidewater x = Checks.established();
        x.write(2, 10);
        x.tick(1);
        for (int stream = 0; stream < 4; stream++) {
            x.write(stream, 10);
        }
        x.tick(2);
        isPacket(x, 1, 3, 0, 10);
        isPacket(x, 2, 0, 0, 10);
        isPacket(x, 3, 1, 0, 10);
        isPacket(x, 4, 2, 10, 10);
    }

    /** "the first one that has bytes that were not sent": the very stream of which was sent last, if no other has */
    private static void roundComesBackToOne() {
        Tidewater x = Checks.established();
        x.write(1, 20);
        x.tick(1);
        isPacket(x, 0, 1, 0, 10);
        isPacket(x, 1, 1, 10, 10);
    }

    /** "of which new bytes were sent last": 0; bytes of 2 that were lost are sent ahead of the new ones of 1 and 3 */
    private static void roundForgetsWhatWasLost() {
        Tidewater x = Checks.established();
        x.lose(0, true, 1);
        x.write(2, 10);
        x.tick(1);
        x.write(0, 30);
        Checks.until(x, 18);
        x.write(1, 10);
        x.write(3, 10);
        Checks.until(x, 20);
        isPacket(x, 4, 2, 0, 10);
        isPacket(x, 5, 1, 0, 10);
        isPacket(x, 6, 3, 0, 10);
    }

    /** "of which new bytes were sent last": 0; a probe of 41 has bytes of 2 */
    private static void roundForgetsProbes() {
        Tidewater x = Checks.established();
        x.lose(0, true, 2);
        x.write(2, 10);
        x.tick(1);
        x.write(0, 10);
        Checks.until(x, 40);
        Checks.due("ahead of the probe", x.packets(), 2);
        x.write(3, 10);
        x.write(1, 10);
        x.tick(1);
        Checks.due("the probe", x.packet(2, 8), 1);
        isPacket(x, 2, 2, 0, 10);
        isPacket(x, 3, 1, 0, 10);
        isPacket(x, 4, 3, 0, 10);
    }

    /** "as many as it has, below its credit": "The credit of a stream is 40" */
    private static void creditOfAStream() {
        Tidewater x = Checks.established();
        x.write(0, 200);
        Checks.until(x, 30);
        Checks.due("sent", x.stream(0, 1), 40);
        Checks.due("packets", x.packets(), 4);
        x.read(0, 7);
        Checks.until(x, 33);
        Checks.due("the credit is not there yet", x.packets(), 4);
        Checks.until(x, 60);
        Checks.due("packets", x.packets(), 5);
        isPacket(x, 4, 0, 40, 7);
        Checks.due("sent at", x.packet(4, 1), 34);
    }

    /** "below its credit": 35 were sent, 10 more are written */
    private static void creditWithinAPacket() {
        Tidewater x = Checks.established();
        x.write(0, 35);
        Checks.until(x, 30);
        x.write(0, 10);
        Checks.until(x, 60);
        Checks.due("packets", x.packets(), 5);
        isPacket(x, 3, 0, 30, 5);
        isPacket(x, 4, 0, 35, 5);
    }

    /** "so that all streams together have sent new bytes below the credit of all": 100 */
    private static void creditOfAll() {
        Tidewater x = Checks.established();
        for (int stream = 0; stream < 4; stream++) {
            x.write(stream, 25);
        }
        Checks.until(x, 40);
        Checks.due("100 bytes", x.packets(), 12);
        x.write(0, 10);
        Checks.until(x, 60);
        Checks.due("none of the 10", x.packets(), 12);
        Checks.due("though the stream has credit", x.stream(0, 4), 40);
        x.read(3, 1);
        Checks.until(x, 80);
        Checks.due("1 more", x.packets(), 13);
        isPacket(x, 12, 0, 25, 1);
    }

    /** "below the credit of all": 95 were sent, 10 more are written */
    private static void creditOfAllWithinAPacket() {
        Tidewater x = Checks.established();
        x.write(0, 40);
        x.write(1, 40);
        x.write(2, 15);
        Checks.until(x, 40);
        int packets = x.packets();
        x.write(3, 10);
        Checks.until(x, 60);
        Checks.due("one more", x.packets(), packets + 1);
        isPacket(x, packets, 3, 0, 5);
    }

    /** "the first one that has bytes that were not sent, as many as it has, below its credit" */
    private static void streamWithoutCreditIsPassedOver() {
        Tidewater x = Checks.established();
        x.write(0, 30);
        x.tick(1);
        x.write(3, 10);
        x.tick(1);
        x.write(0, 30);
        Checks.until(x, 30);
        Checks.due("its credit is used up", x.stream(0, 1), 40);
        x.write(3, 10);
        x.tick(1);
        Checks.due("behind 0 comes 3", x.stream(3, 1), 20);
        x.write(1, 5);
        x.tick(1);
        Checks.due("behind 3 comes 0, which has no credit, and 1", x.stream(1, 1), 5);
    }

    /** "What is sent next: .. bytes that are lost ..; otherwise .. new bytes below the credit": all credit is used up */
    private static void lostBytesNeedNoCredit() {
        Tidewater x = Checks.established();
        x.lose(0, true, 1);
        x.write(0, 40);
        x.write(1, 40);
        x.write(2, 20);
        x.write(3, 10);
        Checks.until(x, 17);
        Checks.due("100 bytes", x.packets(), 10);
        Checks.until(x, 25);
        Checks.due("the lost ones", x.packets(), 11);
        isPacket(x, 10, 0, 0, 10);
    }

    /**
     * "A byte is lost, if it was sent, was not acknowledged, and is in no packet in flight." 0 and its probe 1 are
     * gone; 2 is acknowledged at 48: then 0 is lost by time, and a tick later 1.
     */
    private static void lostInNoPacketInFlight() {
        Tidewater x = Checks.established();
        x.lose(0, true, 1);
        x.write(0, 10);
        Checks.until(x, 39);
        x.lose(0, true, 1);
        x.write(1, 10);
        Checks.until(x, 48);
        Checks.due("the packet is lost, its probe is not", x.packet(0, 5) + 10 * x.packet(1, 5), 2);
        Checks.due("no byte is lost", x.stream(0, 3), 0);
        Checks.due("none is sent again", x.packets(), 3);
        x.close();
        Checks.until(x, 60);
        Checks.due("closing: nothing is found at 4.", x.stream(0, 3), 0);
        Tidewater y = Checks.established();
        y.lose(0, true, 1);
        y.write(0, 10);
        Checks.until(y, 39);
        y.lose(0, true, 1);
        y.write(1, 10);
        Checks.until(y, 49);
        Checks.due("both are lost", y.packet(0, 5) + 10 * y.packet(1, 5), 22);
        isPacket(y, 3, 0, 0, 10);
    }

    /** "how many bytes .. were acknowledged": the bytes of 0 came in its probe too, and both are acknowledged */
    private static void acknowledgedOnce() {
        Tidewater x = Checks.established();
        x.lose(0, false, 3);
        x.write(0, 10);
        Checks.until(x, 47);
        Checks.due("a probe", x.packets() + 10 * x.count(2), 12);
        Checks.due("none is acknowledged", x.stream(0, 2), 0);
        Checks.until(x, 48);
        Checks.due("both packets are", x.packet(0, 5) + x.packet(1, 5), 2);
        Checks.due("bytes", x.stream(0, 2), 10);
        Checks.due("lost", x.stream(0, 3), 0);
        Checks.due("got", x.stream(0, 5), 10);
        Checks.due("in flight", x.path(0, 2), 0);
    }

    /** "40 more than what was read of it, and 100 more than what was read of all" */
    private static void creditsThatAreTold() {
        Tidewater x = Checks.established();
        x.write(0, 40);
        x.write(1, 30);
        Checks.until(x, 40);
        Checks.due("read", x.read(0, 9), 9);
        Checks.due("read", x.read(1, 200), 30);
        Checks.until(x, 43);
        Checks.due("ahead of it", x.credit(), 100);
        Checks.until(x, 44);
        Checks.due("credit of 0", x.stream(0, 4), 49);
        Checks.due("credit of 1", x.stream(1, 4), 70);
        Checks.due("credit of 2", x.stream(2, 4), 40);
        Checks.due("credit of all", x.credit(), 139);
    }

    /** "the client takes those that are greater than what it has": less is told by an ACK that comes later */
    private static void creditsThatAreLess() {
        Tidewater x = Checks.established();
        x.write(0, 10);
        Checks.until(x, 30);
        x.setPath(0, 30, 9, 30, 30);
        x.read(0, 1);
        x.setPath(0, 1, 9, 30, 30);
        x.read(0, 4);
        Checks.until(x, 31);
        Checks.due("credit", x.stream(0, 4), 45);
        Checks.due("credit of all", x.credit(), 105);
        Checks.until(x, 60);
        Checks.due("41 is not greater", x.stream(0, 4), 45);
        Checks.due("101 is not greater", x.credit(), 105);
    }

    /** "how many were read: at most as many as there are"; "many: 1 to 200" */
    private static void readsWhatIsThere() {
        Tidewater x = Checks.established();
        x.write(0, 12);
        Checks.due("nothing came", x.read(0, 1), 0);
        Checks.until(x, 14);
        Checks.due("1 of 12", x.read(0, 1), 1);
        Checks.due("10 of 11", x.read(0, 10), 10);
        Checks.due("1 of 1", x.read(0, 2), 1);
        Checks.due("none", x.read(0, 200), 0);
        Checks.due("none of another stream", x.read(1, 200), 0);
        Checks.due("read", x.stream(0, 6), 12);
    }

    /** "bytes at the server that were got in order": the first packet is late by 3 */
    private static void readsBehindAGap() {
        Tidewater x = Checks.established();
        x.late(0, 1, 3);
        x.write(0, 30);
        Checks.until(x, 16);
        Checks.due("two came", x.packet(1, 6) + x.packet(2, 6), 2);
        Checks.due("none in order", x.read(0, 200) + x.stream(0, 5) + x.gotAnew(0), 0);
        Checks.until(x, 17);
        Checks.due("all in order", x.stream(0, 5), 30);
        Checks.due("found anew", x.gotAnew(0), 30);
        Checks.due("read", x.read(0, 200), 30);
    }

    /** "as many as are lost one behind the other": 1 */
    private static void oneLostByte() {
        Tidewater x = Checks.established();
        x.lose(0, true, 1);
        x.write(1, 1);
        x.tick(1);
        x.write(2, 30);
        Checks.until(x, 30);
        isPacket(x, 4, 1, 0, 1);
        Checks.due("got", x.stream(1, 5), 1);
        Checks.due("lost no more", x.stream(1, 3), 0);
    }

    /** "found from what became of all packets, put into one row": of a stream that has less than the one asked ahead */
    private static void gotOfEachStream() {
        Tidewater x = Checks.established();
        x.write(0, 20);
        x.write(1, 7);
        Checks.until(x, 30);
        int[] got = {20, 7, 0, 0};
        for (int i = 0; i < 8; i++) {
            Checks.due("got of " + i % 4, x.gotAnew(i % 4), got[i % 4]);
        }
    }
}
