import java.nio.charset.StandardCharsets;
import java.security.MessageDigest;
import java.security.NoSuchAlgorithmException;
import java.util.Base64;
import java.util.Random;

/** Promises 1 to 6, as far as the request goes: what is good, what is bad, and what is answered. */
public final class RequestTest {
    public static void main(String[] args) throws NoSuchAlgorithmException {
        newObject();
        goodOne();
        everyPiece();
        proofs();
        firstLines();
        lines();
        names();
        hosts();
        words();
        keys();
        versions();
        limit();
        behindTheRequest();
        OtherEnd.end();
    }

    private static void newObject() {
        FramedTalk x = new FramedTalk();
        OtherEnd.due("state of a new one", x.state(), OtherEnd.ASKED);
        OtherEnd.due("endCode of a new one", x.endCode(), 0);
        OtherEnd.due("outLength of a new one", x.outLength(), 0);
        OtherEnd.due("messages of a new one", x.messages(), 0);
        OtherEnd.due("delivered of a new one", x.delivered(), 0);
        OtherEnd.due("pongs of a new one", x.pongs(), 0);
        OtherEnd.dueIndex("outAt(0) of a new one", () -> x.outAt(0));
        OtherEnd.dueElement("kind(0) of a new one", () -> x.kind(0));
        OtherEnd.dueElement("length(0) of a new one", () -> x.length(0));
        OtherEnd.dueElement("byteAt(0, 0) of a new one", () -> x.byteAt(0, 0));
        OtherEnd.dueElement("take() of a new one", () -> x.take());
        OtherEnd.dueState("send of a new one", () -> x.send(2, 0));
        OtherEnd.dueState("ping of a new one", () -> x.ping());
        OtherEnd.dueState("close of a new one", () -> x.close(1000));
        OtherEnd.due("drop(0) of a new one", x.drop(0), true);
        OtherEnd.due("drop(1) of a new one", x.drop(1), false);
    }

    private static void goodOne() {
        FramedTalk x = new FramedTalk();
        byte[] row = OtherEnd.signs(OtherEnd.goodRequest(OtherEnd.KEY));
        OtherEnd.feedBy(8, x, java.util.Arrays.copyOf(row, row.length - 1));
        OtherEnd.due("state before the last byte", x.state(), OtherEnd.ASKED);
        OtherEnd.due("outLength before the last byte", x.outLength(), 0);
        OtherEnd.due("feed of the last byte", x.feed(10, 1), 0);
        OtherEnd.due("state", x.state(), OtherEnd.OPEN);
        OtherEnd.due("endCode", x.endCode(), 0);
        OtherEnd.due("OUT", OtherEnd.out(x), Asker.welcome(OtherEnd.PROOF));
    }

    private static void everyPiece() {
        for (int piece = 1; piece <= 8; piece++) {
            FramedTalk x = new FramedTalk();
            OtherEnd.feedBy(piece, x, OtherEnd.signs(OtherEnd.goodRequest(OtherEnd.KEY)));
            OtherEnd.due("in pieces of " + piece, OtherEnd.out(x), Asker.welcome(OtherEnd.PROOF));
        }
    }

    private static void proofs() throws NoSuchAlgorithmException {
        Random random = new Random(7);
        MessageDigest digest = MessageDigest.getInstance("SHA-1");
        for (int i = 0; i < 300; i++) {
            byte[] secret = new byte[16];
            random.nextBytes(secret);
            String key = Base64.getEncoder().encodeToString(secret);
            byte[] all = (key + "258EAFA5-E914-47DA-95CA-C5AB0DC85B11").getBytes(StandardCharsets.US_ASCII);
            String proof = Base64.getEncoder().encodeToString(digest.digest(all));
            Asker.due(OtherEnd.goodRequest(key), Asker.welcome(proof), OtherEnd.OPEN);
        }
    }

    private static void firstLines() {
        for (String first : new String[] {"GET / HTTP/1.1", "GET x HTTP/1.1", "GET !~ HTTP/1.1",
            "GET HTTP/1.1 HTTP/1.1"}) {
            Asker.good(Asker.withFirst(first));
        }
        for (String first : new String[] {"", "GET", "GET ", "GET  HTTP/1.1", "GET HTTP/1.1", "get / HTTP/1.1",
            "POST / HTTP/1.1", "GET / HTTP/1.0", "GET / HTTP/1.11", "GET / http/1.1", "GET / HTTP/1.1 ",
            " GET / HTTP/1.1", "GET  / HTTP/1.1", "GET /  HTTP/1.1", "GET / / HTTP/1.1", "GET /\tx HTTP/1.1",
            "GET /" + (char) 127 + " HTTP/1.1", "GET /" + (char) 31 + " HTTP/1.1", "GET /" + (char) 200 + " HTTP/1.1",
            "GET\t/ HTTP/1.1", "GET /\tHTTP/1.1", "GET/ HTTP/1.1", "GET /HTTP/1.1", "\rGET / HTTP/1.1",
            "GET /\r HTTP/1.1", "GET /\n HTTP/1.1", "GET / HTTP/1.1\r", "HTTP/1.1", "GET / HTTP/1.", "GET /\0 HTTP/1.1"}) {
            Asker.bad(Asker.withFirst(first));
        }
        Asker.due("\r\n\r\n", Asker.BAD, OtherEnd.CLOSED);
        Asker.due("GET / HTTP/1.1\r\n\r\n", Asker.BAD, OtherEnd.CLOSED);
        Asker.bad(Asker.HOST, Asker.FIRST, Asker.UPGRADE, Asker.CONNECTION, Asker.KEY, Asker.VERSION);
    }

    private static void line(boolean isGood, String line) {
        Asker.goodOrBad(isGood, Asker.andThen(line));
        Asker.goodOrBad(isGood, Asker.withSecond(line));
    }

    private static void lines() {
        for (String line : new String[] {"a:", "A:b", "-: x", "9:9", "Az-09: x", "x: \t ", "x:\ta\tb ", "x:: :", "x: ~ !",
            "Hosts: q", "Hos: q", "Post: q", "Vpgrade: q", "Donnection: q", "Tec-WebSocket-Key: q", "Sec-WebSocket-Keys: q", "Sec-WebSocket-Versio: 12", "xUpgrade: q",
            "Sec-WebSocket-Protocol: chat"}) {
            line(true, line);
        }
        for (String line : new String[] {"x", ":", ": x", " x: y", "x : y", "x\t: y", "x_y: z", "x.y: z", "x y: z",
            "x:" + (char) 127, "x:\1", "x: " + (char) 127, "x: " + (char) 128, "x: " + (char) 255, "x: " + (char) 31, "x: \0", "x: a\rb",
            "x: a\nb", "x: a\r", "x: a\n", "\nx: a", "x\r: a", "x@: a", "x[: a", "x`: a", "x{: a", "x/: a", "x;: a",
            "x" + (char) 225 + ": a"}) {
            line(false, line);
        }
    }

    private static void names() {
        Asker.good(Asker.FIRST, "HOST: x", "UPGRADE: websocket", "CONNECTION: upgrade", "SEC-WEBSOCKET-KEY: " + OtherEnd.KEY,
            "SEC-WEBSOCKET-VERSION: 13");
        Asker.good(Asker.FIRST, "host: x", "upgrade: websocket", "connection: upgrade", "sec-websocket-key: " + OtherEnd.KEY,
            "sec-websocket-version: 13");
        Asker.good(Asker.FIRST, Asker.VERSION, Asker.KEY, Asker.CONNECTION, Asker.UPGRADE, Asker.HOST);
        String[] five = {Asker.HOST, Asker.UPGRADE, Asker.CONNECTION, Asker.KEY, Asker.VERSION};
        for (int i = 0; i < 5; i++) {
            String[] without = Asker.goodLines();
            without[1 + i] = "x: y";
            Asker.bad(without);
            Asker.bad(Asker.andThen(five[i]));
            Asker.bad(Asker.withSecond(five[i].toUpperCase()));
        }
    }

    private static void hosts() {
        for (String value : new String[] {"", " ", "\t", " \t \t"}) {
            Asker.bad(Asker.with("Host:" + value));
        }
        for (String value : new String[] {"x", " x ", "\tx y\t", ",", ":"}) {
            Asker.good(Asker.with("Host:" + value));
        }
    }

    private static void words() {
        for (String value : new String[] {"$", " $", "\t$\t", "x,$", "$,x", ",$", "$,", "x , $ , y", ",,\t$ ,,", "$,$",
            "x y,$"}) {
            Asker.good(Asker.with("Upgrade:" + value.replace("$", "WebSocket")));
            Asker.good(Asker.with("Connection:" + value.replace("$", "UPGRADE")));
        }
        for (String value : new String[] {"", " ", ",", "x", "$x", "x$", "x $", "$ x", "$;x", "$/13", "\"$\"", "$\tx",
            "x,y", "x,$ y"}) {
            Asker.bad(Asker.with("Upgrade:" + value.replace("$", "websocket")));
            Asker.bad(Asker.with("Connection:" + value.replace("$", "upgrade")));
        }
        Asker.bad(Asker.with("Upgrade: upgrade"));
        Asker.bad(Asker.with("Connection: websocket"));
        Asker.bad(Asker.with("Upgrade: web,socket"));
        Asker.bad(Asker.with("Upgrade: xebsocket"));
        Asker.bad(Asker.with("Upgrade: websocke"));
    }

    private static void keys() {
        Asker.good(Asker.with("Sec-WebSocket-Key:\t " + OtherEnd.KEY + " \t"));
        String signs = "ABCDEFGHIJKLMNOPQRSTUVWXYZabcdefghijklmnopqrstuvwxyz0123456789+/";
        for (int sign = 32; sign < 127; sign++) {
            boolean inside = signs.indexOf(sign) >= 0;
            boolean atEnd = "AQgw".indexOf(sign) >= 0;
            key("dGhlIHNhbX" + (char) sign + "sZSBub25jZQ==", inside);
            key((char) sign + "GhlIHNhbXBsZSBub25jZQ==", inside);
            key("dGhlIHNhbXBsZSBub25jZ" + (char) sign + "==", atEnd);
            key("dGhlIHNhbXBsZSBub25jZQ" + (char) sign + "=", sign == '=');
            key("dGhlIHNhbXBsZSBub25jZQ=" + (char) sign, sign == '=');
        }
        for (String key : new String[] {"", "==", "dGhlIHNhbXBsZSBub25jQ==", "dGhlIHNhbXBsZSBub25jZZQ==",
            OtherEnd.KEY + "=", OtherEnd.KEY + "," + OtherEnd.KEY, OtherEnd.KEY + " x", "x " + OtherEnd.KEY}) {
            key(key, false);
        }
    }

    private static void key(String key, boolean isGood) {
        FramedTalk x = new FramedTalk();
        OtherEnd.feed(x, OtherEnd.signs(OtherEnd.goodRequest(key)));
        OtherEnd.due("state with key " + key, x.state(), isGood ? OtherEnd.OPEN : OtherEnd.CLOSED);
        OtherEnd.due("outLength with key " + key, x.outLength(), isGood ? 129 : Asker.BAD.length());
    }

    private static void versions() {
        for (String value : new String[] {"13", " 13", "13 ", "\t13 \t"}) {
            Asker.good(Asker.with("Sec-WebSocket-Version:" + value));
        }
        for (String value : new String[] {"", " ", "8", "12", "14", "23", "1 3", "013", "130", "13,8", "13, 13", "thirteen"}) {
            Asker.old(Asker.with("Sec-WebSocket-Version:" + value));
        }
        Asker.bad(Asker.FIRST, Asker.HOST, Asker.UPGRADE, Asker.CONNECTION, "Sec-WebSocket-Key: x", "Sec-WebSocket-Version: 8");
        Asker.bad(Asker.FIRST, "Host:", Asker.UPGRADE, Asker.CONNECTION, Asker.KEY, "Sec-WebSocket-Version: 8");
        Asker.bad("GET / HTTP/1.0", Asker.HOST, Asker.UPGRADE, Asker.CONNECTION, Asker.KEY, "Sec-WebSocket-Version: 8");
    }

    private static void limit() {
        Asker.due(Asker.ofSize(399, Asker.VERSION), Asker.welcome(OtherEnd.PROOF), OtherEnd.OPEN);
        Asker.due(Asker.ofSize(400, Asker.VERSION), Asker.welcome(OtherEnd.PROOF), OtherEnd.OPEN);
        Asker.due(Asker.ofSize(401, Asker.VERSION), Asker.BAD, OtherEnd.CLOSED);
        FramedTalk x = new FramedTalk();
        OtherEnd.feedBy(7, x, OtherEnd.many('G', 399));
        OtherEnd.due("state behind 399 bytes", x.state(), OtherEnd.ASKED);
        OtherEnd.due("outLength behind 399 bytes", x.outLength(), 0);
        x.feed('G', 1);
        OtherEnd.due("state behind 400 bytes", x.state(), OtherEnd.CLOSED);
        OtherEnd.due("OUT behind 400 bytes", OtherEnd.out(x), Asker.BAD);
        OtherEnd.dueState("feed when the request was refused", () -> x.feed(0, 1));
    }

    private static void behindTheRequest() {
        FramedTalk x = new FramedTalk();
        byte[] ping = OtherEnd.frame(OtherEnd.LAST + OtherEnd.PING, OtherEnd.signs("Hi"));
        OtherEnd.feed(x, OtherEnd.signs(Asker.ofSize(190, Asker.VERSION) + OtherEnd.asSigns(ping)));
        OtherEnd.due("a frame in the same call", OtherEnd.out(x),
            Asker.welcome(OtherEnd.PROOF) + OtherEnd.asSigns(138, 2, 'H', 'i'));
        FramedTalk refused = new FramedTalk();
        OtherEnd.due("bytes behind a refusal are lost", refused.feed(0x4747470A0D0A0DL, 7), 0);
        OtherEnd.due("OUT of that", OtherEnd.out(refused), Asker.BAD);
    }
}
