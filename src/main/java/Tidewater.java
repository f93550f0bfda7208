/**
 * A transport from a client to a server over a network that is simulated packet by packet, tick by tick.
 * The promises that it keeps are numbered in the project's document.
 */
public final class Tidewater {
    private static final int STREAMS = 4;
    private static final int STREAM_BYTES = 200;
    private static final int PACKET_BYTES = 10;
    private static final int MOST_PACKETS = 400;
    private static final int MOST_QUEUED = 30;
    private static final int MOST_TO_SERVER = 1024;
    private static final int MOST_TO_CLIENT = 2048;
    private static final int TICKETS = 10;
    private static final int LAST_TICK = 2000;
    private static final int BOTH = 2;
    private static final int NONE = -1;

    private static final int HELLO = 0;
    private static final int COOKIE = 1;
    private static final int ACCEPT = 2;
    private static final int DATA = 3;
    private static final int ACK = 4;
    private static final int CHALLENGE = 5;
    private static final int RESPONSE = 6;
    private static final int CLOSE = 7;
    private static final int RESET = 8;
    private static final int FOREIGN = 9;

    private static final int IDLE = 0;
    private static final int SAYING_HELLO = 1;
    private static final int ESTABLISHED = 2;
    private static final int CLOSING = 3;
    private static final int CLOSED = 4;
    private static final int WAS_RESET = 5;

    private static final int SERVER_NEW = 0;
    private static final int SERVER_ESTABLISHED = 1;
    private static final int SERVER_DRAINING = 2;
    private static final int SERVER_LOST_STATE = 3;

    private static final int IN_FLIGHT = 0;
    private static final int ACKNOWLEDGED = 1;
    private static final int LOST = 2;
    private static final int LOST_AND_ACKNOWLEDGED = 3;
    private static final int REFUSED = 4;

    private static final int TAKEN = 1;
    private static final int NOT_TAKEN = 2;
    private static final int GONE = 3;

    private static final int BY_ROUNDS = 0;
    private static final int BY_CUBE = 1;
    private static final int BY_RATES = 2;

    private static final int ACK_RANGES = 4;
    private static final int ACK_DELAY = 3;
    private static final int ACK_PERIOD = 20;
    private static final int FIRST_HELLO_WAIT = 10;
    private static final int CLOSE_WAIT = 30;
    private static final int KEY_KEPT = 8;
    private static final int STREAM_CREDIT = 40;
    private static final int ALL_CREDIT = 100;
    private static final int ORDER_GAP = 3;
    private static final int MOST_DOUBLINGS = 6;
    private static final int RATES_KEPT = 8;

    private final Network network;
    private final Stream[] streams;
    private final Server server;
    private final Client client;
    private final boolean[] gotRow;

    public Tidewater() {
        network = new Network();
        streams = new Stream[STREAMS];
        for (int i = 0; i < STREAMS; i++) {
            streams[i] = new Stream();
        }
        server = new Server(network, streams);
        client = new Client(network, streams);
        gotRow = new boolean[STREAM_BYTES];
    }

    // ---- the network

    public void setPath(int path, int delay, int rate, int room, int mark)
            throws IndexOutOfBoundsException, IllegalArgumentException {
        requirePath(path);
        requireRange(delay, 1, 30);
        requireRange(rate, 1, 9);
        requireRange(room, 1, MOST_QUEUED);
        requireRange(mark, 0, 30);
        Lane lane = network.laneOf(path);
        lane.delay = delay;
        lane.rate = rate;
        lane.room = room;
        lane.mark = mark;
    }

    public boolean setUp(int path, boolean isUp) throws IndexOutOfBoundsException {
        requirePath(path);
        Lane lane = network.laneOf(path);
        boolean was = lane.isUp;
        lane.isUp = isUp;
        return was;
    }

    public void lose(int path, boolean isToServer, int many)
            throws IndexOutOfBoundsException, IllegalArgumentException {
        requirePath(path);
        requireRange(many, 0, 20);
        Lane lane = network.laneOf(path);
        if (isToServer) {
            lane.loseToServer = many;
        } else {
            lane.loseToClient = many;
        }
    }

    public void late(int path, int many, int by) throws IndexOutOfBoundsException, IllegalArgumentException {
        requirePath(path);
        requireRange(many, 0, 20);
        requireRange(by, 0, 50);
        Lane lane = network.laneOf(path);
        lane.lateMany = many;
        lane.lateBy = by;
    }

    public int foreign(int path, int many) throws IndexOutOfBoundsException, IllegalArgumentException {
        requirePath(path);
        requireRange(many, 1, 30);
        return network.putForeign(path, many);
    }

    // ---- the server

    public boolean setCookies(boolean asks) {
        boolean did = server.asksCookies;
        server.asksCookies = asks;
        return did;
    }

    public int read(int stream, int many) throws IndexOutOfBoundsException, IllegalArgumentException {
        requireStream(stream);
        requireRange(many, 1, STREAM_BYTES);
        return server.readBytes(streams[stream], many);
    }

    public void loseState() {
        server.forget();
    }

    // ---- the client

    public void connect(int ticket) throws IllegalArgumentException, IllegalStateException {
        requireRange(ticket, NONE, TICKETS - 1);
        requireState(client.state == IDLE);
        client.beginHello(ticket);
    }

    public int write(int stream, int many)
            throws IndexOutOfBoundsException, IllegalArgumentException, IllegalStateException {
        requireStream(stream);
        requireRange(many, 1, STREAM_BYTES);
        Stream written = streams[stream];
        requireState(written.written + many <= STREAM_BYTES);
        written.written += many;
        return written.written;
    }

    public int setWay(int path, int way) throws IndexOutOfBoundsException, IllegalArgumentException {
        requirePath(path);
        requireRange(way, BY_ROUNDS, BY_RATES);
        Growth growth = client.routeOf(path).growth;
        int before = growth.way;
        growth.way = way;
        return before;
    }

    public void check(int path) throws IndexOutOfBoundsException, IllegalStateException {
        requirePath(path);
        requireState(client.state == ESTABLISHED);
        network.putToServer(path, new Message(CHALLENGE));
    }

    public int use(int which) throws IllegalArgumentException, IllegalStateException {
        requireRange(which, 0, BOTH);
        requireState(which == 1 || client.routeOf(0).isChecked);
        requireState(which == 0 || client.routeOf(1).isChecked);
        int before = client.used;
        client.used = which;
        return before;
    }

    public int changeKey() throws IllegalStateException {
        requireState(client.canChangeKey());
        client.key++;
        return client.key;
    }

    public void close() throws IllegalStateException {
        requireState(client.state == ESTABLISHED);
        client.beginClosing();
    }

    public int tick(int ticks) throws IllegalArgumentException, IllegalStateException {
        requireRange(ticks, 1, 50);
        requireState(network.now + ticks <= LAST_TICK);
        for (int i = 0; i < ticks; i++) {
            network.now++;
            server.hearAll();
            client.hearAll();
            server.acknowledgeInTime();
            client.lookAfter();
            client.sendData();
            network.letLeave();
        }
        return network.now;
    }

    // ---- what there is; nothing from here on changes anything

    public int now() {
        return network.now;
    }

    public int state(int what) throws IllegalArgumentException {
        requireRange(what, 0, 4);
        switch (what) {
            case 0: return client.state;
            case 1: return server.state;
            case 2: return client.key;
            case 3: return server.key;
            default: return client.used;
        }
    }

    public int path(int path, int what) throws IndexOutOfBoundsException, IllegalArgumentException {
        requirePath(path);
        requireRange(what, 0, 8);
        Route route = client.routeOf(path);
        switch (what) {
            case 0: return route.growth.window;
            case 1: return route.growth.bound;
            case 2: return route.inFlight;
            case 3: return route.time;
            case 4: return route.spread;
            case 5: return route.least;
            case 6: return route.latest;
            case 7: return asNumber(route.isChecked);
            default: return network.laneOf(path).length;
        }
    }

    public int stream(int stream, int what) throws IndexOutOfBoundsException, IllegalArgumentException {
        requireStream(stream);
        requireRange(what, 0, 6);
        Stream told = streams[stream];
        switch (what) {
            case 0: return told.written;
            case 1: return told.sent;
            case 2: return told.acknowledged;
            case 3: return told.lost;
            case 4: return told.credit;
            case 5: return told.gotInOrder;
            default: return told.consumed;
        }
    }

    public int credit() {
        return client.creditOfAll;
    }

    public int packets() {
        return client.sent;
    }

    public int packet(int packet, int what) throws IndexOutOfBoundsException, IllegalArgumentException {
        Packet told = requirePacket(packet);
        requireRange(what, 0, 10);
        switch (what) {
            case 0: return told.path;
            case 1: return told.sentAt;
            case 2: return told.stream;
            case 3: return told.first;
            case 4: return told.many;
            case 5: return told.known;
            case 6: return told.fate;
            case 7: return told.key;
            case 8: return asNumber(told.isProbe);
            case 9: return asNumber(told.isEarly);
            default: return asNumber(told.isMarked);
        }
    }

    public int count(int what) throws IllegalArgumentException {
        requireRange(what, 0, 5);
        Route one = client.routeOf(0);
        Route other = client.routeOf(1);
        switch (what) {
            case 0: return one.losses + other.losses;
            case 1: return one.falseLosses + other.falseLosses;
            case 2: return one.probes + other.probes;
            case 3: return client.hellos;
            case 4: return server.acksPut;
            default: return one.growth.harms + other.growth.harms;
        }
    }

    public int inFlightAnew(int path) throws IndexOutOfBoundsException {
        requirePath(path);
        int found = 0;
        for (int i = 0; i < client.sent; i++) {
            Packet packet = client.packetAt(i);
            if (packet != null && packet.path == path && packet.known == IN_FLIGHT) {
                found++;
            }
        }
        return found;
    }

    public int gotAnew(int stream) throws IndexOutOfBoundsException {
        requireStream(stream);
        clearRow(gotRow);
        for (int i = 0; i < client.sent; i++) {
            Packet packet = client.packetAt(i);
            if (packet != null && packet.stream == stream && packet.fate == TAKEN) {
                markRow(gotRow, packet.first, packet.many);
            }
        }
        return lengthOfPrefix(gotRow, 0);
    }

    // ---- of the face's own use

    private Packet requirePacket(int number) {
        Packet packet = client.packetAt(number);
        if (packet == null) {
            throw new IndexOutOfBoundsException("there is no such packet");
        }
        return packet;
    }

    private static void requirePath(int path) {
        if (path < 0 || path > 1) {
            throw new IndexOutOfBoundsException("there is no such path");
        }
    }

    private static void requireStream(int stream) {
        if (stream < 0 || stream >= STREAMS) {
            throw new IndexOutOfBoundsException("there is no such stream");
        }
    }

    private static void requireRange(int value, int least, int greatest) {
        if (value < least || value > greatest) {
            throw new IllegalArgumentException("a value is out of range");
        }
    }

    private static void requireState(boolean isPossible) {
        if (!isPossible) {
            throw new IllegalStateException("that is not possible now");
        }
    }

    private static int asNumber(boolean is) {
        return is ? 1 : 0;
    }

    private static void clearRow(boolean[] row) {
        for (int i = 0; i < row.length; i++) {
            row[i] = false;
        }
    }

    private static void markRow(boolean[] row, int first, int many) {
        for (int i = Math.max(0, first); i < first + many && i < row.length; i++) {
            row[i] = true;
        }
    }

    private static int lengthOfPrefix(boolean[] row, int known) {
        int length = Math.max(0, known);
        while (length < row.length && row[length]) {
            length++;
        }
        return length;
    }

    /** A packet of data, with what the client knows of it and what became of it. */
    private static final class Packet {
        final int number;
        final int path;
        final int sentAt;
        final int stream;
        final int first;
        final int many;
        int key;
        boolean isProbe;
        boolean isEarly;
        boolean isMarked;
        int known = IN_FLIGHT;
        int fate;
        int place;
        int deliveredBefore;

        Packet(int number, int path, int sentAt, int stream, int first, int many) {
            this.number = number;
            this.path = path;
            this.sentAt = sentAt;
            this.stream = stream;
            this.first = first;
            this.many = many;
        }
    }

    /** What the server tells when it acknowledges; the first range is the one with the greatest numbers. */
    private static final class Ack {
        final int[] lows = new int[ACK_RANGES];
        final int[] highs = new int[ACK_RANGES];
        final int[] credits = new int[STREAMS];
        int ranges;
        int marked;
        int creditOfAll;

        void addRange(int low, int high) {
            if (ranges < ACK_RANGES) {
                lows[ranges] = low;
                highs[ranges] = high;
                ranges++;
            }
        }

        int greatest() {
            return ranges > 0 ? highs[0] : NONE;
        }
    }

    /** What travels on a path; which of the fields count depends on the kind. */
    private static final class Message {
        final int kind;
        int path;
        int due;
        Packet data;
        Ack ack;
        int ticket = NONE;
        boolean hasCookie;
        boolean takesEarly;

        Message(int kind) {
            this.kind = kind;
        }
    }

    /** One path of the network, with its queue to the server. */
    private static final class Lane {
        int delay = 5;
        int rate = 2;
        int room = 8;
        int mark = 6;
        boolean isUp = true;
        int loseToServer;
        int loseToClient;
        int lateMany;
        int lateBy;
        final Message[] queue = new Message[MOST_QUEUED];
        int head;
        int length;

        boolean letsToServer() {
            if (!isUp) {
                return false;
            }
            if (loseToServer > 0) {
                loseToServer--;
                return false;
            }
            return hasRoom();
        }

        boolean letsToClient() {
            if (!isUp) {
                return false;
            }
            if (loseToClient > 0) {
                loseToClient--;
                return false;
            }
            return true;
        }

        boolean hasRoom() {
            return length < room && length < MOST_QUEUED;
        }

        void append(Message message) {
            if (length < MOST_QUEUED) {
                queue[(head + length) % MOST_QUEUED] = message;
                length++;
            }
        }

        Message removeFirst() {
            Message first = queue[head];
            queue[head] = null;
            head = (head + 1) % MOST_QUEUED;
            length--;
            return first;
        }

        int takeLateness() {
            if (lateMany <= 0) {
                return 0;
            }
            lateMany--;
            return lateBy;
        }
    }

    /** Messages that are on their way to one end, in the order in which they set out. */
    private static final class Transit {
        final Message[] messages;
        int length;

        Transit(int most) {
            messages = new Message[Math.max(0, most)];
        }

        void append(Message message, int due) {
            if (length < messages.length) {
                message.due = due;
                messages[length] = message;
                length++;
            }
        }

        /** Null when nothing arrives any more in this tick. */
        Message takeDue(int now) {
            for (int i = 0; i < length && i < messages.length; i++) {
                Message message = messages[i];
                if (message != null && message.due == now) {
                    System.arraycopy(messages, i + 1, messages, i, length - i - 1);
                    length--;
                    messages[length] = null;
                    return message;
                }
            }
            return null;
        }
    }

    /** The two paths, what is under way on them, and the time. */
    private static final class Network {
        final Lane lane0 = new Lane();
        final Lane lane1 = new Lane();
        final Transit toServer = new Transit(MOST_TO_SERVER);
        final Transit toClient = new Transit(MOST_TO_CLIENT);
        final Message foreigner = new Message(FOREIGN);
        int now;

        Lane laneOf(int path) {
            return path == 0 ? lane0 : lane1;
        }

        void putToServer(int path, Message message) {
            Lane lane = laneOf(path);
            message.path = path;
            boolean isIn = lane.letsToServer();
            if (message.data != null) {
                message.data.isMarked = isIn && lane.length >= lane.mark;
                if (!isIn) {
                    message.data.fate = GONE;
                }
            }
            if (isIn) {
                lane.append(message);
            }
        }

        void putToClient(int path, Message message) {
            Lane lane = laneOf(path);
            message.path = path;
            if (lane.letsToClient()) {
                toClient.append(message, now + lane.delay);
            }
        }

        int putForeign(int path, int many) {
            Lane lane = laneOf(path);
            int put = 0;
            while (put < many && lane.hasRoom()) {
                lane.append(foreigner);
                put++;
            }
            return put;
        }

        void letLeave() {
            letLeaveLane(lane0);
            letLeaveLane(lane1);
        }

        private void letLeaveLane(Lane lane) {
            for (int i = 0; i < lane.rate && lane.length > 0; i++) {
                Message message = lane.removeFirst();
                if (message != null && message.kind != FOREIGN) {
                    toServer.append(message, now + lane.delay + lane.takeLateness());
                }
            }
        }
    }

    /** A stream: what the client knows of its bytes, and what the server has of them. */
    private static final class Stream {
        int written;
        int sent;
        int acknowledged;
        int lost;
        int credit = STREAM_CREDIT;
        int gotInOrder;
        int consumed;
        final boolean[] isAcknowledged = new boolean[STREAM_BYTES];
        final int[] flights = new int[STREAM_BYTES];
        final boolean[] isGot = new boolean[STREAM_BYTES];

        boolean isLost(int at) {
            return at >= 0 && at < sent && at < STREAM_BYTES && !isAcknowledged[at] && flights[at] == 0;
        }

        int lowestLost() {
            int at = 0;
            while (at < STREAM_BYTES && !isLost(at)) {
                at++;
            }
            return at;
        }

        int lostInARow(int first) {
            int many = 0;
            while (many < PACKET_BYTES && isLost(first + many)) {
                many++;
            }
            return many;
        }

        int canSendAnew(int roomOfAll) {
            int allowed = Math.min(Math.min(written, credit) - sent, roomOfAll);
            return Math.max(0, Math.min(allowed, PACKET_BYTES));
        }

        void takeOff(int first, int many) {
            for (int i = Math.max(0, first); i < first + many && i < STREAM_BYTES; i++) {
                if (isLost(i)) {
                    lost--;
                }
                flights[i]++;
            }
            sent = Math.max(sent, first + many);
        }

        void land(int first, int many) {
            for (int i = Math.max(0, first); i < first + many && i < STREAM_BYTES; i++) {
                flights[i]--;
                if (isLost(i)) {
                    lost++;
                }
            }
        }

        void acknowledge(int first, int many) {
            for (int i = Math.max(0, first); i < first + many && i < STREAM_BYTES; i++) {
                if (isLost(i)) {
                    lost--;
                }
                if (!isAcknowledged[i]) {
                    isAcknowledged[i] = true;
                    acknowledged++;
                }
            }
        }

        void arrive(int first, int many) {
            markRow(isGot, first, many);
            gotInOrder = lengthOfPrefix(isGot, gotInOrder);
        }
    }

    /** The window of a path, and how it grows and shrinks. */
    private static final class Growth {
        int way = BY_ROUNDS;
        int window = 160;
        int bound = 999999;
        int harms;
        int windowBeforeHarm = 160;
        int boundBeforeHarm = 999999;
        int harmedAt;
        int sentBeforeHarm;
        int harmingPacket = NONE;
        final int[] rates = new int[RATES_KEPT];
        int nextRate;

        void grow(int now, int delivered, int ticks, int leastMeasure) {
            if (way == BY_RATES) {
                keepRate(16 * delivered / Math.max(1, ticks));
                window = Math.max(64, 2 * greatestRate() * leastMeasure);
            } else if (window < bound) {
                window += 16;
            } else if (way == BY_ROUNDS) {
                window += Math.max(1, 256 / Math.max(1, window));
            } else {
                window += cubeStep(now);
            }
        }

        private int cubeStep(int now) {
            long rise = 3L * windowBeforeHarm / 10;
            long turn = 0;
            while (turn < 10000 && 2 * turn * turn * turn / 125 < rise) {
                turn++;
            }
            long away = now - harmedAt - turn;
            long aim = windowBeforeHarm + 2 * away * away * away / 125;
            return (int) Math.max(1, 16 * (aim - window) / Math.max(1, window));
        }

        private void keepRate(int rate) {
            rates[nextRate] = rate;
            nextRate = (nextRate + 1) % RATES_KEPT;
        }

        private int greatestRate() {
            int greatest = 0;
            for (int rate : rates) {
                greatest = Math.max(greatest, rate);
            }
            return greatest;
        }

        /** The lost packet is NONE when marks did the harm, since no later news can take that back. */
        void harm(int number, int lostPacket, int sentSoFar, int now) {
            if (number < sentBeforeHarm) {
                return;
            }
            harms++;
            windowBeforeHarm = window;
            boundBeforeHarm = bound;
            harmedAt = now;
            sentBeforeHarm = sentSoFar;
            harmingPacket = lostPacket;
            if (way != BY_RATES) {
                window = Math.max(32, way == BY_CUBE ? window * 7 / 10 : window / 2);
                bound = window;
            }
        }

        void takeBackHarm(int packet) {
            if (packet == harmingPacket) {
                harmingPacket = NONE;
                window = Math.max(window, windowBeforeHarm);
                bound = Math.max(bound, boundBeforeHarm);
            }
        }
    }

    /** What the client knows of a path. */
    private static final class Route {
        final int path;
        final Growth growth = new Growth();
        boolean isChecked;
        int inFlight;
        int time = 80;
        int spread = 20;
        int least = 10;
        int latest = 10;
        boolean isMeasured;
        int places;
        int greatestPlace = NONE;
        int delivered;
        int lastSentAt;
        int sentNow;
        int doublings;
        int losses;
        int falseLosses;
        int probes;

        Route(int path) {
            this.path = path;
            this.isChecked = path == 0;
        }

        void measure(int ticks) {
            latest = ticks;
            if (isMeasured) {
                least = Math.min(least, ticks);
                spread += Math.abs(ticks - time / 8) - spread / 4;
                time += ticks - time / 8;
            } else {
                isMeasured = true;
                least = ticks;
                spread = 2 * ticks;
                time = 8 * ticks;
            }
        }

        boolean canSend() {
            return (inFlight + 1) * 16 <= growth.window && sentNow < mostPerTick();
        }

        private int mostPerTick() {
            int twice = growth.window / 16 * 2;
            int ticks = Math.max(1, time / 8);
            return Math.max(2, (twice + ticks - 1) / ticks);
        }

        boolean isProbeDue(int now) {
            int wait = time / 8 + Math.max(1, spread) + 3;
            return inFlight > 0 && now - lastSentAt >= wait << Math.min(doublings, MOST_DOUBLINGS);
        }

        boolean isLostByOrder(Packet packet) {
            return packet.place + ORDER_GAP <= greatestPlace;
        }

        boolean isLostByTime(Packet packet, int now) {
            int wait = Math.max(1, 9 * Math.max(time / 8, latest) / 8);
            return packet.place < greatestPlace && now - packet.sentAt >= wait;
        }
    }

    /** The end that takes the data. */
    private static final class Server {
        final Network network;
        final Stream[] streams;
        int state = SERVER_NEW;
        boolean asksCookies;
        boolean takesEarly;
        final boolean[] isUsed = new boolean[TICKETS];
        int key;
        int keyBefore = NONE;
        int keyBeforeEnds;
        final boolean[] isTaken = new boolean[MOST_PACKETS];
        int greatestTaken = NONE;
        int markedTaken;
        int takenSinceAck;
        int ackDue = NONE;
        int lastPath = NONE;
        int acksPut;

        Server(Network network, Stream[] streams) {
            this.network = network;
            this.streams = streams;
        }

        int readBytes(Stream stream, int many) {
            int some = Math.max(0, Math.min(many, stream.gotInOrder - stream.consumed));
            stream.consumed += some;
            if (some > 0) {
                acknowledge();
            }
            return some;
        }

        void forget() {
            state = SERVER_LOST_STATE;
            takesEarly = false;
            clearRow(isTaken);
            greatestTaken = NONE;
            markedTaken = 0;
            takenSinceAck = 0;
            ackDue = NONE;
            lastPath = NONE;
        }

        void hearAll() {
            for (int left = network.toServer.length; left > 0; left--) {
                Message message = network.toServer.takeDue(network.now);
                if (message == null) {
                    break;
                }
                hear(message);
            }
        }

        private void hear(Message message) {
            if (message.data != null) {
                message.data.fate = NOT_TAKEN;
            }
            if (state == SERVER_DRAINING) {
                return;
            }
            if (message.kind == HELLO) {
                hearHello(message);
            } else if (state == SERVER_LOST_STATE) {
                network.putToClient(message.path, new Message(RESET));
            } else if (state == SERVER_ESTABLISHED) {
                hearWhenEstablished(message);
            }
        }

        private void hearHello(Message hello) {
            if (state != SERVER_ESTABLISHED) {
                if (asksCookies && !hello.hasCookie) {
                    network.putToClient(hello.path, new Message(COOKIE));
                    return;
                }
                state = SERVER_ESTABLISHED;
                takesEarly = useTicket(hello.ticket);
            }
            Message accept = new Message(ACCEPT);
            accept.takesEarly = takesEarly;
            network.putToClient(hello.path, accept);
        }

        private boolean useTicket(int ticket) {
            if (ticket < 0 || ticket >= TICKETS || isUsed[ticket]) {
                return false;
            }
            isUsed[ticket] = true;
            return true;
        }

        private void hearWhenEstablished(Message message) {
            if (message.kind == CHALLENGE) {
                network.putToClient(message.path, new Message(RESPONSE));
            } else if (message.kind == CLOSE) {
                state = SERVER_DRAINING;
            } else if (message.data != null) {
                lastPath = message.path;
                hearData(message.data);
            }
        }

        private void hearData(Packet packet) {
            boolean isRefused = packet.isEarly && !takesEarly;
            int number = packet.number;
            if (isRefused || !takesKey(packet.key) || number < 0 || number >= MOST_PACKETS) {
                return;
            }
            packet.fate = TAKEN;
            if (packet.stream >= 0 && packet.stream < STREAMS) {
                streams[packet.stream].arrive(packet.first, packet.many);
            }
            boolean isAtOnce = packet.isProbe || number != greatestTaken + 1 || takenSinceAck > 0;
            isTaken[number] = true;
            greatestTaken = Math.max(greatestTaken, number);
            takenSinceAck++;
            if (packet.isMarked) {
                markedTaken++;
            }
            if (isAtOnce) {
                acknowledge();
            } else {
                ackDue = network.now + ACK_DELAY;
            }
        }

        private boolean takesKey(int other) {
            if (other > key) {
                keyBefore = key;
                keyBeforeEnds = network.now + KEY_KEPT;
                key = other;
            }
            return other == key || other == keyBefore && network.now < keyBeforeEnds;
        }

        void acknowledgeInTime() {
            if (network.now == ackDue || network.now % ACK_PERIOD == 0) {
                acknowledge();
            }
        }

        private void acknowledge() {
            if (state != SERVER_ESTABLISHED || lastPath == NONE) {
                return;
            }
            acksPut++;
            takenSinceAck = 0;
            ackDue = NONE;
            Message message = new Message(ACK);
            message.ack = makeAck();
            network.putToClient(lastPath, message);
        }

        private Ack makeAck() {
            Ack ack = new Ack();
            int high = nextTaken(greatestTaken, true);
            for (int i = 0; i < ACK_RANGES && high >= 0; i++) {
                int below = nextTaken(high, false);
                ack.addRange(below + 1, high);
                high = nextTaken(below, true);
            }
            ack.marked = markedTaken;
            int all = 0;
            for (int i = 0; i < STREAMS; i++) {
                ack.credits[i] = STREAM_CREDIT + streams[i].consumed;
                all += streams[i].consumed;
            }
            ack.creditOfAll = ALL_CREDIT + all;
            return ack;
        }

        /** The greatest number from this one downwards that was taken, or was not; NONE if there is none. */
        private int nextTaken(int from, boolean isSought) {
            int number = from;
            while (number >= 0 && number < MOST_PACKETS && isTaken[number] != isSought) {
                number--;
            }
            return number;
        }
    }

    /** The end that sends the data. */
    private static final class Client {
        final Network network;
        final Stream[] streams;
        final Route route0 = new Route(0);
        final Route route1 = new Route(1);
        final Packet[] packets = new Packet[MOST_PACKETS];
        int sent;
        int firstOpen;
        int state = IDLE;
        int ticket = NONE;
        boolean hasCookie;
        int hellos;
        int helloAt;
        int helloWait = FIRST_HELLO_WAIT;
        int closedAt;
        int key;
        int used;
        int creditOfAll = ALL_CREDIT;
        int lastStream = STREAMS - 1;
        int marksKnown;

        Client(Network network, Stream[] streams) {
            this.network = network;
            this.streams = streams;
        }

        Route routeOf(int path) {
            return path == 0 ? route0 : route1;
        }

        /** Null if there is no such packet. */
        Packet packetAt(int number) {
            return number >= 0 && number < sent && number < MOST_PACKETS ? packets[number] : null;
        }

        void beginHello(int withTicket) {
            state = SAYING_HELLO;
            ticket = withTicket;
            sayHello();
        }

        private void sayHello() {
            hellos++;
            helloAt = network.now;
            Message hello = new Message(HELLO);
            hello.ticket = ticket;
            hello.hasCookie = hasCookie;
            network.putToServer(0, hello);
        }

        boolean canChangeKey() {
            boolean isKeyKnown = false;
            for (int i = 0; i < sent; i++) {
                Packet packet = packetAt(i);
                if (packet != null && packet.key == key && isAcknowledged(packet)) {
                    isKeyKnown = true;
                }
            }
            return state == ESTABLISHED && isKeyKnown;
        }

        private static boolean isAcknowledged(Packet packet) {
            return packet.known == ACKNOWLEDGED || packet.known == LOST_AND_ACKNOWLEDGED;
        }

        void beginClosing() {
            state = CLOSING;
            closedAt = network.now + CLOSE_WAIT;
            network.putToServer(used == 1 ? 1 : 0, new Message(CLOSE));
        }

        // ---- what arrives

        void hearAll() {
            for (int left = network.toClient.length; left > 0; left--) {
                Message message = network.toClient.takeDue(network.now);
                if (message == null) {
                    break;
                }
                if (state == SAYING_HELLO || state == ESTABLISHED || state == CLOSING) {
                    hear(message);
                }
            }
        }

        private void hear(Message message) {
            boolean saysHello = state == SAYING_HELLO;
            if (message.kind == RESET) {
                state = WAS_RESET;
            } else if (message.kind == RESPONSE) {
                routeOf(message.path).isChecked = true;
            } else if (message.kind == COOKIE && saysHello && !hasCookie) {
                hasCookie = true;
                helloWait = FIRST_HELLO_WAIT;
                sayHello();
            } else if (message.kind == ACCEPT && saysHello) {
                hearAccept(message.takesEarly);
            } else if (message.ack != null && !saysHello) {
                hearAck(message.ack);
            }
        }

        private void hearAccept(boolean takesEarly) {
            state = ESTABLISHED;
            route0.measure(network.now - helloAt);
            for (int i = firstOpen; i < sent && !takesEarly; i++) {
                Packet packet = packetAt(i);
                if (packet != null && packet.isEarly && packet.known == IN_FLIGHT) {
                    leaveFlight(packet, REFUSED);
                }
            }
        }

        private void leaveFlight(Packet packet, int known) {
            packet.known = known;
            routeOf(packet.path).inFlight--;
            if (packet.stream >= 0 && packet.stream < STREAMS) {
                if (known == ACKNOWLEDGED) {
                    streams[packet.stream].acknowledge(packet.first, packet.many);
                }
                streams[packet.stream].land(packet.first, packet.many);
            }
        }

        private void hearAck(Ack ack) {
            Packet greatest = packetAt(ack.greatest());
            boolean isMeasure = greatest != null && greatest.known == IN_FLIGHT;
            for (int i = Math.min(ack.ranges, ACK_RANGES) - 1; i >= 0; i--) {
                for (int number = ack.lows[i]; number <= ack.highs[i] && number < sent; number++) {
                    acknowledge(packetAt(number));
                }
            }
            if (greatest != null) {
                hearOfGreatest(greatest, isMeasure, ack.marked);
            }
            takeCredits(ack);
            route0.doublings = 0;
            route1.doublings = 0;
            findLosses(route0, true);
            findLosses(route1, true);
        }

        private void hearOfGreatest(Packet packet, boolean isMeasure, int marked) {
            Route route = routeOf(packet.path);
            if (isMeasure) {
                route.measure(network.now - packet.sentAt);
            }
            if (marked > marksKnown) {
                marksKnown = marked;
                route.growth.harm(packet.number, NONE, sent, network.now);
            }
        }

        /** A lost one has a greater place acknowledged behind it already. */
        private void acknowledge(Packet packet) {
            if (packet == null) {
                return;
            }
            Route route = routeOf(packet.path);
            if (packet.known == IN_FLIGHT) {
                leaveFlight(packet, ACKNOWLEDGED);
                route.delivered++;
                int delivered = route.delivered - packet.deliveredBefore;
                route.growth.grow(network.now, delivered, network.now - packet.sentAt, route.least);
                route.greatestPlace = Math.max(route.greatestPlace, packet.place);
            } else if (packet.known == LOST) {
                packet.known = LOST_AND_ACKNOWLEDGED;
                route.falseLosses++;
                if (packet.stream >= 0 && packet.stream < STREAMS) {
                    streams[packet.stream].acknowledge(packet.first, packet.many);
                }
                route.growth.takeBackHarm(packet.number);
            }
        }

        private void takeCredits(Ack ack) {
            for (int i = 0; i < STREAMS; i++) {
                streams[i].credit = Math.max(streams[i].credit, ack.credits[i]);
            }
            creditOfAll = Math.max(creditOfAll, ack.creditOfAll);
        }

        /** Places and ticks rise with the numbers, so that the first packet that is not lost ends the search. */
        private void findLosses(Route route, boolean isByOrderToo) {
            Packet packet = lowestInFlight(route);
            for (int left = route.inFlight; left > 0 && packet != null; left--) {
                boolean isByOrder = isByOrderToo && route.isLostByOrder(packet);
                if (!isByOrder && !route.isLostByTime(packet, network.now)) {
                    break;
                }
                leaveFlight(packet, LOST);
                route.losses++;
                route.growth.harm(packet.number, packet.number, sent, network.now);
                packet = lowestInFlight(route);
            }
        }

        private Packet lowestInFlight(Route route) {
            Packet open = packetAt(firstOpen);
            while (firstOpen < sent && open != null && open.known != IN_FLIGHT) {
                firstOpen++;
                open = packetAt(firstOpen);
            }
            for (int i = firstOpen; i < sent && route.inFlight > 0; i++) {
                Packet packet = packetAt(i);
                if (packet != null && packet.path == route.path && packet.known == IN_FLIGHT) {
                    return packet;
                }
            }
            return null;
        }

        // ---- what the time brings

        void lookAfter() {
            if (state == SAYING_HELLO || state == ESTABLISHED) {
                findLosses(route0, false);
                findLosses(route1, false);
                probeInTime(route0);
                probeInTime(route1);
            }
            if (state == SAYING_HELLO && network.now - helloAt >= helloWait) {
                helloWait *= 2;
                sayHello();
            } else if (state == CLOSING && network.now >= closedAt) {
                state = CLOSED;
            }
        }

        private void probeInTime(Route route) {
            Packet packet = route.isProbeDue(network.now) ? lowestInFlight(route) : null;
            if (packet != null && sent < MOST_PACKETS) {
                route.probes++;
                route.doublings++;
                sendPacket(route, packet.stream, packet.first, packet.many, true);
            }
        }

        // ---- what is sent

        void sendData() {
            route0.sentNow = 0;
            route1.sentNow = 0;
            if (state != ESTABLISHED && (state != SAYING_HELLO || ticket == NONE)) {
                return;
            }
            for (int i = sent; i < MOST_PACKETS; i++) {
                Route route = routeToSend();
                if (route == null || !sendLost(route) && !sendNew(route)) {
                    break;
                }
                route.sentNow++;
            }
        }

        /** Null if no path that is used can take a packet. */
        private Route routeToSend() {
            boolean can0 = used != 1 && route0.canSend();
            boolean can1 = used != 0 && route1.canSend();
            if (can0 && can1) {
                return route1.inFlight < route0.inFlight ? route1 : route0;
            }
            if (can0) {
                return route0;
            }
            return can1 ? route1 : null;
        }

        private boolean sendLost(Route route) {
            for (int i = 0; i < STREAMS; i++) {
                if (streams[i].lost > 0) {
                    int first = streams[i].lowestLost();
                    sendPacket(route, i, first, streams[i].lostInARow(first), false);
                    return true;
                }
            }
            return false;
        }

        private boolean sendNew(Route route) {
            int roomOfAll = creditOfAll;
            for (int i = 0; i < STREAMS; i++) {
                roomOfAll -= streams[i].sent;
            }
            for (int i = 1; i <= STREAMS; i++) {
                int next = (lastStream + i) % STREAMS;
                int many = streams[next].canSendAnew(roomOfAll);
                if (many > 0) {
                    lastStream = next;
                    sendPacket(route, next, streams[next].sent, many, false);
                    return true;
                }
            }
            return false;
        }

        private void sendPacket(Route route, int stream, int first, int many, boolean isProbe) {
            if (sent >= MOST_PACKETS || stream < 0 || stream >= STREAMS) {
                return;
            }
            Packet packet = new Packet(sent, route.path, network.now, stream, first, many);
            packet.key = key;
            packet.isProbe = isProbe;
            packet.isEarly = state == SAYING_HELLO;
            packet.place = route.places;
            packet.deliveredBefore = route.delivered;
            packets[sent] = packet;
            sent++;
            route.places++;
            route.inFlight++;
            route.lastSentAt = network.now;
            streams[stream].takeOff(first, many);
            Message message = new Message(DATA);
            message.data = packet;
            network.putToServer(route.path, message);
        }
    }
}
