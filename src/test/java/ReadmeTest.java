/** The example in README.md, line by line. */
final class ReadmeTest {
    private ReadmeTest() {
    }

    public static void main(String[] args) {
        Tidewater x = new Tidewater();
        Checks.due("write", x.write(0, 95), 95);
        x.connect(-1);
        Checks.due("now", x.tick(30), 30);
        Checks.due("established", x.state(0), 2);
        Checks.due("got", x.stream(0, 5), 40);
        Checks.due("read", x.read(0, 50), 40);
        x.tick(40);
        Checks.due("got", x.stream(0, 5), 80);
        Checks.due("read", x.read(0, 200), 40);
        x.tick(40);
        Checks.due("acknowledged", x.stream(0, 2), 95);
        x.close();
        x.tick(30);
        Checks.due("closed", x.state(0), 4);
        Checks.end("ReadmeTest");
    }
}
