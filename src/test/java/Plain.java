import java.util.ArrayList;
import java.util.List;

/**
 * The document once more, in the plainest form: nothing is counted along, all is found anew from lists.
 * It takes only calls that the document allows; MixedRunsTest holds it against the program.
 */
final class Plain {
    static final class Data {
        int number, path, sentAt, stream, first, many, known, fate, key, probe, early, marked;
        int ackedWhileFlyingBefore;
    }

    static final class Item {
        String kind;
        int path, due;
        Data data;
        int ticket = -1;
        boolean cookie, takesEarly;
        List<Integer> numbers;
        int marked;
        int[] credits;
    }

    static final class Way {
        int delay = 5, rate = 2, room = 8, mark = 6, loseUp, loseDown, lateMany, lateBy;
        boolean up = true;
        List<Item> queue = new ArrayList<>();
        int window = 160, bound = 999999, kind, time = 80, spread = 20, least = 10, latest = 10;
        boolean measured, checked;
        int probesInARow, ackedWhileFlying, sentInTick;
        int harms, harmTick, harmAllSent, harmPacket = -1, harmWindow, harmBound;
        List<Integer> rates = new ArrayList<>();
    }

    Way[] ways = {new Way(), new Way()};
    List<Item> up = new ArrayList<>();
    List<Item> down = new ArrayList<>();
    List<Data> packets = new ArrayList<>();
    int now, client, server, clientKey, serverKey, used;
    int[] written = new int[4];
    int[] consumed = new int[4];
    int[] credits = {40, 40, 40, 40, 100};
    int hellos, acks, losses, falseLosses, probes;
    int ticket, helloAt, helloWait, closeAt, marksKnown, lastNew = 3;
    boolean hasCookie, asks, takesEarly;
    boolean[] usedTickets = new boolean[10];
    List<Data> taken = new ArrayList<>();
    int oldKey = -1, oldKeyLastTick, ackPath = -1, sinceAck, ackAt = -1;

    Plain() {
        ways[0].checked = true;
    }

    // ---- the network

    void toServer(Item item, int path) {
        Way way = ways[path];
        item.path = path;
        boolean gone = false;
        if (!way.up) {
            gone = true;
        } else if (way.loseUp > 0) {
            way.loseUp--;
            gone = true;
        } else if (way.queue.size() >= way.room) {
            gone = true;
        }
        if (gone) {
            if (item.data != null) {
                item.data.fate = 3;
            }
            return;
        }
        if (way.queue.size() >= way.mark && item.data != null) {
            item.data.marked = 1;
        }
        way.queue.add(item);
    }

    void toClient(Item item, int path) {
        Way way = ways[path];
        item.path = path;
        if (!way.up) {
            return;
        }
        if (way.loseDown > 0) {
            way.loseDown--;
            return;
        }
        item.due = now + way.delay;
        down.add(item);
    }

    static Item item(String kind) {
        Item item = new Item();
        item.kind = kind;
        return item;
    }

    int foreign(int path, int many) {
        int put = 0;
        for (int i = 0; i < many; i++) {
            if (ways[path].queue.size() < ways[path].room) {
                ways[path].queue.add(item("FOREIGN"));
                put++;
            }
        }
        return put;
    }

    void tick() {
        now++;
        List<Item> due = new ArrayList<>();
        for (Item item : up) {
            if (item.due == now) {
                due.add(item);
            }
        }
        up.removeAll(due);
        for (Item item : due) {
            serverGets(item);
        }
        List<Item> dueDown = new ArrayList<>();
        for (Item item : down) {
            if (item.due == now) {
                dueDown.add(item);
            }
        }
        down.removeAll(dueDown);
        for (Item item : dueDown) {
            clientGets(item);
        }
        if (ackAt == now || now % 20 == 0) {
            putAck();
        }
        fourth();
        fifth();
        for (Way way : ways) {
            for (int i = 0; i < way.rate; i++) {
                if (way.queue.isEmpty()) {
                    continue;
                }
                Item item = way.queue.remove(0);
                if (item.kind.equals("FOREIGN")) {
                    continue;
                }
                item.due = now + way.delay;
                if (way.lateMany > 0) {
                    way.lateMany--;
                    item.due += way.lateBy;
                }
                up.add(item);
            }
        }
    }

    // ---- the server

    void serverGets(Item item) {
        if (item.data != null) {
            item.data.fate = 2;
        }
        if (server == 2) {
            return;
        }
        if (item.kind.equals("HELLO")) {
            if (server != 1 && asks && !item.cookie) {
                toClient(item("COOKIE"), item.path);
                return;
            }
            if (server != 1) {
                server = 1;
                takesEarly = item.ticket >= 0 && !usedTickets[item.ticket];
                if (item.ticket >= 0) {
                    usedTickets[item.ticket] = true;
                }
            }
            Item accept = item("ACCEPT");
            accept.takesEarly = takesEarly;
            toClient(accept, item.path);
            return;
        }
        if (server == 3) {
            toClient(item("RESET"), item.path);
            return;
        }
        if (server == 0) {
            return;
        }
        if (item.kind.equals("CHALLENGE")) {
            toClient(item("RESPONSE"), item.path);
        }
        if (item.kind.equals("CLOSE")) {
            server = 2;
        }
        if (item.data != null) {
            serverGetsData(item);
        }
    }

    void serverGetsData(Item item) {
        Data data = item.data;
        ackPath = item.path;
        if (data.early == 1 && !takesEarly) {
            return;
        }
        if (data.key > serverKey) {
            oldKey = serverKey;
            serverKey = data.key;
            oldKeyLastTick = now + 7;
        }
        if (data.key < serverKey && (data.key != oldKey || now > oldKeyLastTick)) {
            return;
        }
        data.fate = 1;
        int greatest = -1;
        for (Data other : taken) {
            greatest = Math.max(greatest, other.number);
        }
        taken.add(data);
        sinceAck++;
        if (data.probe == 1 || data.number != greatest + 1 || sinceAck == 2) {
            putAck();
        } else {
            ackAt = now + 3;
        }
    }

    void putAck() {
        if (server != 1 || ackPath < 0) {
            return;
        }
        acks++;
        sinceAck = 0;
        ackAt = -1;
        Item item = item("ACK");
        item.numbers = new ArrayList<>();
        int ranges = 0;
        for (int n = 400; n >= 0; n--) {
            if (isTaken(n)) {
                if (!isTaken(n + 1)) {
                    ranges++;
                }
                if (ranges <= 4) {
                    item.numbers.add(0, n);
                }
            }
        }
        for (Data data : taken) {
            item.marked += data.marked;
        }
        item.credits = new int[] {40, 40, 40, 40, 100};
        for (int i = 0; i < 4; i++) {
            item.credits[i] += consumed[i];
            item.credits[4] += consumed[i];
        }
        toClient(item, ackPath);
    }

    boolean isTaken(int number) {
        for (Data data : taken) {
            if (data.number == number) {
                return true;
            }
        }
        return false;
    }

    int got(int stream) {
        int[] row = row(stream);
        int length = 0;
        while (length < 200 && (row[length] & GOT) != 0) {
            length++;
        }
        return length;
    }

    int read(int stream, int many) {
        int some = Math.min(many, got(stream) - consumed[stream]);
        consumed[stream] += some;
        if (some > 0) {
            putAck();
        }
        return some;
    }

    void loseState() {
        server = 3;
        taken.clear();
        takesEarly = false;
        ackPath = -1;
        sinceAck = 0;
        ackAt = -1;
    }

    // ---- the client

    void connect(int with) {
        client = 1;
        ticket = with;
        helloWait = 10;
        hello();
    }

    void hello() {
        hellos++;
        helloAt = now;
        Item item = item("HELLO");
        item.ticket = ticket;
        item.cookie = hasCookie;
        toServer(item, 0);
    }

    void clientGets(Item item) {
        if (client == 0 || client == 4 || client == 5) {
            return;
        }
        switch (item.kind) {
            case "RESET":
                client = 5;
                break;
            case "COOKIE":
                if (client == 1 && !hasCookie) {
                    hasCookie = true;
                    helloWait = 10;
                    hello();
                }
                break;
            case "RESPONSE":
                ways[item.path].checked = true;
                break;
            case "ACCEPT":
                if (client == 1) {
                    client = 2;
                    measure(ways[0], now - helloAt);
                    for (Data data : packets) {
                        if (!item.takesEarly && data.early == 1 && data.known == 0) {
                            data.known = 4;
                        }
                    }
                }
                break;
            case "ACK":
                if (client == 2 || client == 3) {
                    clientGetsAck(item);
                }
                break;
            default:
                break;
        }
    }

    void clientGetsAck(Item item) {
        Data greatest = null;
        if (!item.numbers.isEmpty()) {
            greatest = packets.get(item.numbers.get(item.numbers.size() - 1));
        }
        boolean measures = greatest != null && greatest.known == 0;
        for (int number : item.numbers) {
            Data data = packets.get(number);
            Way way = ways[data.path];
            if (data.known == 0) {
                data.known = 1;
                way.ackedWhileFlying++;
                grow(way, data);
            } else if (data.known == 2) {
                data.known = 3;
                falseLosses++;
                if (way.harmPacket == number) {
                    way.harmPacket = -1;
                    if (way.harmWindow > way.window) {
                        way.window = way.harmWindow;
                    }
                    if (way.harmBound > way.bound) {
                        way.bound = way.harmBound;
                    }
                }
            }
        }
        if (measures) {
            measure(ways[greatest.path], now - greatest.sentAt);
        }
        if (item.marked > marksKnown) {
            marksKnown = item.marked;
            harm(ways[greatest.path], greatest.number, -1);
        }
        for (int i = 0; i < 5; i++) {
            credits[i] = Math.max(credits[i], item.credits[i]);
        }
        for (Way way : ways) {
            way.probesInARow = 0;
        }
        for (int path = 0; path < 2; path++) {
            looseByOrder(path);
            looseByTime(path);
        }
    }

    void grow(Way way, Data data) {
        if (way.kind == 2) {
            int rate = 16 * (way.ackedWhileFlying - data.ackedWhileFlyingBefore) / Math.max(1, now - data.sentAt);
            way.rates.add(rate);
            int best = 0;
            for (int i = Math.max(0, way.rates.size() - 8); i < way.rates.size(); i++) {
                best = Math.max(best, way.rates.get(i));
            }
            way.window = Math.max(64, 2 * best * way.least);
            return;
        }
        if (way.window < way.bound) {
            way.window += 16;
            return;
        }
        if (way.kind == 0) {
            way.window += Math.max(1, 256 / way.window);
            return;
        }
        long k = 0;
        while (2 * k * k * k / 125 < 3 * way.harmWindow / 10) {
            k++;
        }
        long d = now - way.harmTick - k;
        long part = 2 * Math.abs(d * d * d) / 125;
        long aim = way.harmWindow + (d < 0 ? -part : part);
        way.window += aim < way.window ? 1 : (int) Math.max(1, 16 * (aim - way.window) / way.window);
    }

    void measure(Way way, int m) {
        way.latest = m;
        if (!way.measured) {
            way.measured = true;
            way.time = 8 * m;
            way.spread = 2 * m;
            way.least = m;
            return;
        }
        way.least = Math.min(way.least, m);
        way.spread = way.spread + Math.abs(m - way.time / 8) - way.spread / 4;
        way.time = way.time + m - way.time / 8;
    }

    void harm(Way way, int number, int packet) {
        if (way.harms > 0 && number < way.harmAllSent) {
            return;
        }
        way.harms++;
        way.harmAllSent = packets.size();
        way.harmTick = now;
        way.harmWindow = way.window;
        way.harmBound = way.bound;
        way.harmPacket = packet;
        if (way.kind == 0) {
            way.window = Math.max(32, way.window / 2);
            way.bound = way.window;
        }
        if (way.kind == 1) {
            way.window = Math.max(32, way.window * 7 / 10);
            way.bound = way.window;
        }
    }

    int behindAcked(Data data) {
        int behind = 0;
        int most = 0;
        for (int n = data.number + 1; n < packets.size(); n++) {
            Data other = packets.get(n);
            if (other.path == data.path) {
                behind++;
                if (other.known == 1 || other.known == 3) {
                    most = behind;
                }
            }
        }
        return most;
    }

    void looseByOrder(int path) {
        for (Data data : packets) {
            if (data.path == path && data.known == 0 && behindAcked(data) >= 3) {
                isLost(data);
            }
        }
    }

    void looseByTime(int path) {
        Way way = ways[path];
        int ticks = Math.max(1, 9 * Math.max(way.time / 8, way.latest) / 8);
        for (Data data : packets) {
            if (data.path == path && data.known == 0 && now - data.sentAt >= ticks && behindAcked(data) >= 1) {
                isLost(data);
            }
        }
    }

    void isLost(Data data) {
        data.known = 2;
        losses++;
        harm(ways[data.path], data.number, data.number);
    }

    int inFlight(int path) {
        int many = 0;
        for (Data data : packets) {
            if (data.path == path && data.known == 0) {
                many++;
            }
        }
        return many;
    }

    void fourth() {
        if (client == 1 || client == 2) {
            looseByTime(0);
            looseByTime(1);
            probe(0);
            probe(1);
        }
        if (client == 1 && now == helloAt + helloWait) {
            helloWait *= 2;
            hello();
        }
        if (client == 3 && now == closeAt) {
            client = 4;
        }
    }

    void probe(int path) {
        Way way = ways[path];
        Data lowest = null;
        Data last = null;
        for (Data data : packets) {
            if (data.path == path) {
                last = data;
                if (lowest == null && data.known == 0) {
                    lowest = data;
                }
            }
        }
        if (lowest == null || packets.size() == 400) {
            return;
        }
        int wait = way.time / 8 + Math.max(1, way.spread) + 3;
        for (int i = 0; i < way.probesInARow && i < 6; i++) {
            wait *= 2;
        }
        if (now - last.sentAt >= wait) {
            way.probesInARow++;
            probes++;
            send(path, lowest.stream, lowest.first, lowest.many, 1);
        }
    }

    void send(int path, int stream, int first, int many, int probe) {
        Data data = new Data();
        data.number = packets.size();
        data.path = path;
        data.sentAt = now;
        data.stream = stream;
        data.first = first;
        data.many = many;
        data.key = clientKey;
        data.probe = probe;
        data.early = client == 1 ? 1 : 0;
        data.ackedWhileFlyingBefore = ways[path].ackedWhileFlying;
        packets.add(data);
        Item item = item("DATA");
        item.data = data;
        toServer(item, path);
    }

    static final int SENT = 1, FLYING = 2, ACKED = 4, GOT = 8;

    /** What is so of each byte of a stream, from all packets. */
    int[] row(int stream) {
        int[] row = new int[200];
        for (Data data : packets) {
            for (int at = data.first; data.stream == stream && at < data.first + data.many; at++) {
                row[at] |= SENT;
                row[at] |= data.known == 0 ? FLYING : 0;
                row[at] |= data.known == 1 || data.known == 3 ? ACKED : 0;
                row[at] |= data.fate == 1 ? GOT : 0;
            }
        }
        return row;
    }

    int many(int stream, int of) {
        int many = 0;
        for (int is : row(stream)) {
            many += (is & of) != 0 ? 1 : 0;
        }
        return many;
    }

    int lostMany(int stream) {
        int many = 0;
        for (int is : row(stream)) {
            many += (is & 7) == SENT ? 1 : 0;
        }
        return many;
    }

    boolean canTake(int path) {
        if (used != 2 && used != path) {
            return false;
        }
        Way way = ways[path];
        int t = Math.max(1, way.time / 8);
        int top = way.window / 16 * 2;
        int most = Math.max(2, top / t + (top % t > 0 ? 1 : 0));
        return (inFlight(path) + 1) * 16 <= way.window && way.sentInTick < most;
    }

    void fifth() {
        ways[0].sentInTick = 0;
        ways[1].sentInTick = 0;
        if (client != 2 && !(client == 1 && ticket >= 0)) {
            return;
        }
        while (packets.size() < 400) {
            int path;
            if (canTake(0) && canTake(1)) {
                path = inFlight(0) <= inFlight(1) ? 0 : 1;
            } else if (canTake(0)) {
                path = 0;
            } else if (canTake(1)) {
                path = 1;
            } else {
                return;
            }
            if (!sendSomething(path)) {
                return;
            }
            ways[path].sentInTick++;
        }
    }

    boolean sendSomething(int path) {
        for (int stream = 0; stream < 4; stream++) {
            int[] row = row(stream);
            for (int at = 0; at < 200; at++) {
                if ((row[at] & 7) == SENT) {
                    int many = 0;
                    while (many < 10 && at + many < 200 && (row[at + many] & 7) == SENT) {
                        many++;
                    }
                    send(path, stream, at, many, 0);
                    return true;
                }
            }
        }
        int all = 0;
        for (int stream = 0; stream < 4; stream++) {
            all += many(stream, SENT);
        }
        for (int i = 1; i <= 4; i++) {
            int stream = (lastNew + i) % 4;
            int sent = many(stream, SENT);
            int many = 0;
            while (many < 10 && sent + many < written[stream] && sent + many < credits[stream]
                    && all + many < credits[4]) {
                many++;
            }
            if (many > 0) {
                lastNew = stream;
                send(path, stream, sent, many, 0);
                return true;
            }
        }
        return false;
    }

    boolean canChangeKey() {
        for (Data data : packets) {
            if (client == 2 && data.key == clientKey && (data.known == 1 || data.known == 3)) {
                return true;
            }
        }
        return false;
    }

    void close() {
        client = 3;
        closeAt = now + 30;
        toServer(item("CLOSE"), used == 1 ? 1 : 0);
    }

    // ---- what there is, in the order of Checks.answers

    long[] answers() {
        List<Integer> row = new ArrayList<>(List.of(now, credits[4], packets.size()));
        row.addAll(List.of(client, server, clientKey, serverKey, used));
        for (int path = 0; path < 2; path++) {
            Way way = ways[path];
            row.addAll(List.of(way.window, way.bound, inFlight(path), way.time, way.spread));
            row.addAll(List.of(way.least, way.latest, way.checked ? 1 : 0, way.queue.size(), inFlight(path)));
        }
        for (int s = 0; s < 4; s++) {
            row.addAll(List.of(written[s], many(s, SENT), many(s, ACKED), lostMany(s), credits[s]));
            row.addAll(List.of(got(s), consumed[s], got(s)));
        }
        row.addAll(List.of(losses, falseLosses, probes, hellos, acks, ways[0].harms + ways[1].harms));
        for (Data data : packets) {
            row.addAll(List.of(data.path, data.sentAt, data.stream, data.first, data.many, data.known));
            row.addAll(List.of(data.fate, data.key, data.probe, data.early, data.marked));
        }
        long[] all = new long[row.size()];
        for (int i = 0; i < all.length; i++) {
            all[i] = row.get(i);
        }
        return all;
    }
}
