import java.io.ByteArrayOutputStream;
import java.nio.charset.StandardCharsets;
import java.util.Arrays;
import java.util.NoSuchElementException;

/** What the tests share: the calling end of a talk, and the count of answers that are not as due. */
final class OtherEnd {
    static final String KEY = "dGhlIHNhbXBsZSBub25jZQ==";
    static final String PROOF = "s3pPLMBiTxaQ9kYGzzhZRbK+xOo=";
    static final int MORE = 0, TEXT = 1, BYTES = 2, CLOSE = 8, PING = 9, PONG = 10;
    static final int LAST = 128;
    static final int ASKED = 0, OPEN = 1, CLOSING = 2, CLOSED = 3;

    private static final byte[] MASK = {(byte) 0x91, 0x07, (byte) 0xFE, 0x3C};
    private static int checks = 0;
    private static int wrong = 0;

    private OtherEnd() {
    }

    interface Call {
        void make();
    }

    static void due(String what, Object got, Object want) {
        checks++;
        if (!got.equals(want)) {
            wrong++;
            System.out.println(what + " answered " + got + ", due is " + want);
        }
    }

    // So that a character that is due counts as its code.
    static void due(String what, int got, int want) {
        due(what, (Object) got, (Object) want);
    }

    static void dueThrow(String what, Class<? extends Exception> want, Call call) {
        String got = "nothing";
        try {
            call.make();
        } catch (RuntimeException e) {
            got = e.getClass().getSimpleName();
        }
        due(what + " throws", got, want.getSimpleName());
    }

    static void dueArgument(String what, Call call) {
        dueThrow(what, IllegalArgumentException.class, call);
    }

    static void dueState(String what, Call call) {
        dueThrow(what, IllegalStateException.class, call);
    }

    static void dueIndex(String what, Call call) {
        dueThrow(what, IndexOutOfBoundsException.class, call);
    }

    static void dueElement(String what, Call call) {
        dueThrow(what, NoSuchElementException.class, call);
    }

    static void end() {
        System.out.println(checks + " answers looked at, " + wrong + " not as due");
        if (wrong != 0) {
            System.exit(1);
        }
    }

    static byte[] bytes(int... values) {
        byte[] row = new byte[values.length];
        for (int i = 0; i < values.length; i++) {
            row[i] = (byte) values[i];
        }
        return row;
    }

    static byte[] signs(String text) {
        return text.getBytes(StandardCharsets.ISO_8859_1);
    }

    static byte[] utf8(String text) {
        return text.getBytes(StandardCharsets.UTF_8);
    }

    static byte[] many(int value, int count) {
        byte[] row = new byte[count];
        Arrays.fill(row, (byte) value);
        return row;
    }

    static byte[] join(byte[]... rows) {
        ByteArrayOutputStream all = new ByteArrayOutputStream();
        for (byte[] row : rows) {
            all.write(row, 0, row.length);
        }
        return all.toByteArray();
    }

    static String request(String... lines) {
        return String.join("\r\n", lines) + "\r\n\r\n";
    }

    static String goodRequest(String key) {
        return request("GET /chat HTTP/1.1", "Host: a.b", "Upgrade: websocket", "Connection: Upgrade",
            "Sec-WebSocket-Key: " + key, "Sec-WebSocket-Version: 13");
    }

    static byte[] frame(int first, byte[] content) {
        return frame(first, content, MASK);
    }

    static byte[] frame(int first, byte[] content, byte[] mask) {
        byte[] masked = content.clone();
        for (int i = 0; i < masked.length; i++) {
            masked[i] ^= mask[i % 4];
        }
        return join(head(first, content.length), mask, masked);
    }

    static byte[] head(int first, long length) {
        if (length < 126) {
            return bytes(first, 128 + (int) length);
        }
        if (length < 65536) {
            return bytes(first, 128 + 126, (int) length >> 8, (int) length);
        }
        return longHead(first, length);
    }

    static byte[] longHead(int first, long length) {
        byte[] head = new byte[10];
        head[0] = (byte) first;
        head[1] = (byte) 255;
        for (int i = 0; i < 8; i++) {
            head[2 + i] = (byte) (length >>> (56 - 8 * i));
        }
        return head;
    }

    static byte[] closeFrame(int code, byte[] reason) {
        return frame(LAST + CLOSE, join(bytes(code >> 8, code), reason));
    }

    static long word(byte[] row, int from, int n) {
        long w = 0;
        for (int i = 0; i < n; i++) {
            w |= (row[from + i] & 255L) << (8 * i);
        }
        return w;
    }

    /** Feeds all in pieces of eight; what comes behind the piece that closes the talk is left out. */
    static int feed(FramedTalk x, byte[]... rows) {
        return feedBy(8, x, join(rows));
    }

    static int feedBy(int piece, FramedTalk x, byte[] row) {
        int delivered = 0;
        for (int from = 0; from < row.length && x.state() != CLOSED; from += piece) {
            int n = Math.min(piece, row.length - from);
            delivered += x.feed(word(row, from, n), n);
        }
        return delivered;
    }

    /** A talk that has been opened, with nothing in OUT. */
    static FramedTalk open() {
        FramedTalk x = new FramedTalk();
        feed(x, signs(goodRequest(KEY)));
        x.drop(x.outLength());
        return x;
    }

    static void write(FramedTalk x, byte[] row) {
        for (int from = 0; from < row.length; from += 8) {
            int n = Math.min(8, row.length - from);
            due("write of " + n, x.write(word(row, from, n), n), true);
        }
    }

    static String out(FramedTalk x) {
        StringBuilder all = new StringBuilder();
        int length = x.outLength();
        for (int i = 0; i < length; i++) {
            all.append((char) x.outAt(i));
        }
        return all.toString();
    }

    static String message(FramedTalk x, int k) {
        StringBuilder all = new StringBuilder();
        int length = x.length(k);
        for (int i = 0; i < length; i++) {
            all.append((char) x.byteAt(k, i));
        }
        return all.toString();
    }

    static String asSigns(byte[] row) {
        return new String(row, StandardCharsets.ISO_8859_1);
    }

    static String asSigns(int... values) {
        return asSigns(bytes(values));
    }

    static void dueOut(String what, FramedTalk x, int... want) {
        due(what + ": OUT", out(x), asSigns(want));
    }

    /** The talk has ended by itself with this code, which it has said. */
    static void dueEnd(String what, FramedTalk x, int code) {
        due(what + ": state", x.state(), CLOSED);
        due(what + ": endCode", x.endCode(), code);
        dueOut(what, x, 136, 2, code >> 8, code & 255);
    }
}
