/** What the tests of the request share: its lines, and the three answers that it can get. */
final class Asker {
    static final String BAD = "HTTP/1.1 400 Bad Request\r\n\r\n";
    static final String OLD = "HTTP/1.1 426 Upgrade Required\r\nSec-WebSocket-Version: 13\r\n\r\n";
    static final String FIRST = "GET /chat HTTP/1.1";
    static final String HOST = "Host: a.b";
    static final String UPGRADE = "Upgrade: websocket";
    static final String CONNECTION = "Connection: Upgrade";
    static final String KEY = "Sec-WebSocket-Key: " + OtherEnd.KEY;
    static final String VERSION = "Sec-WebSocket-Version: 13";

    private Asker() {
    }

    static String welcome(String proof) {
        return "HTTP/1.1 101 Switching Protocols\r\nUpgrade: websocket\r\nConnection: Upgrade\r\n"
            + "Sec-WebSocket-Accept: " + proof + "\r\n\r\n";
    }

    static void due(String request, String out, int state) {
        FramedTalk x = new FramedTalk();
        OtherEnd.feed(x, OtherEnd.signs(request));
        dueAnswer("request <" + request.replace("\r", "\\r").replace("\n", "\\n") + ">", x, out, state);
    }

    static void dueAnswer(String what, FramedTalk x, String out, int state) {
        OtherEnd.due(what + ": state", x.state(), state);
        OtherEnd.due(what + ": OUT", OtherEnd.out(x), out);
        OtherEnd.due(what + ": endCode", x.endCode(), 0);
    }

    static void good(String... lines) {
        due(OtherEnd.request(lines), welcome(OtherEnd.PROOF), OtherEnd.OPEN);
    }

    static void bad(String... lines) {
        due(OtherEnd.request(lines), BAD, OtherEnd.CLOSED);
    }

    static void old(String... lines) {
        due(OtherEnd.request(lines), OLD, OtherEnd.CLOSED);
    }

    static void goodOrBad(boolean isGood, String... lines) {
        if (isGood) {
            good(lines);
        } else {
            bad(lines);
        }
    }

    static String[] goodLines() {
        return withFirst(FIRST);
    }

    /** The lines of a good request, this one in the place of the one with the same name. */
    static String[] with(String line) {
        String[] lines = goodLines();
        String name = line.substring(0, line.indexOf(':') + 1);
        for (int i = 1; i < lines.length; i++) {
            if (lines[i].startsWith(name)) {
                lines[i] = line;
                return lines;
            }
        }
        throw new AssertionError("no line of a good request begins with " + name);
    }

    static String[] withFirst(String first) {
        return new String[] {first, HOST, UPGRADE, CONNECTION, KEY, VERSION};
    }

    static String[] withSecond(String line) {
        return new String[] {FIRST, line, HOST, UPGRADE, CONNECTION, KEY, VERSION};
    }

    static String[] andThen(String line) {
        return new String[] {FIRST, HOST, UPGRADE, CONNECTION, KEY, VERSION, line};
    }

    /** A good request of so many bytes, but for the version. */
    static String ofSize(int size, String version) {
        String[] lines = {FIRST, HOST, UPGRADE, CONNECTION, KEY, version, "x:"};
        int bare = OtherEnd.request(lines).length();
        lines[6] += "y".repeat(size - bare);
        return OtherEnd.request(lines);
    }
}
