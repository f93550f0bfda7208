/** Promise 1, and what the ends and paths are at first. */
final class NewObjectTest {
    private NewObjectTest() {
    }

    public static void main(String[] args) {
        Tidewater x = new Tidewater();
        Checks.due("now()", x.now(), 0);
        Checks.due("packets()", x.packets(), 0);
        Checks.due("credit()", x.credit(), 100);
        for (int what = 0; what <= 4; what++) {
            Checks.due("state(" + what + ")", x.state(what), 0);
        }
        long[] first = {160, 999999, 0, 80, 20, 10, 10, 1, 0};
        for (int path = 0; path < 2; path++) {
            for (int what = 0; what <= 8; what++) {
                long want = path == 1 && what == 7 ? 0 : first[what];
                Checks.due("path(" + path + ", " + what + ")", x.path(path, what), want);
            }
            Checks.due("inFlightAnew", x.inFlightAnew(path), 0);
            Checks.due("setUp", x.setUp(path, true), true);
            Checks.due("setWay", x.setWay(path, 0), 0);
        }
        for (int stream = 0; stream < 4; stream++) {
            for (int what = 0; what <= 6; what++) {
                Checks.due("stream(" + stream + ", " + what + ")", x.stream(stream, what), what == 4 ? 40 : 0);
            }
            Checks.due("gotAnew", x.gotAnew(stream), 0);
        }
        for (int what = 0; what <= 5; what++) {
            Checks.due("count(" + what + ")", x.count(what), 0);
        }
        Checks.due("setCookies", x.setCookies(false), false);
        Checks.due("use", x.use(0), 0);
        Checks.end("NewObjectTest");
    }
}
