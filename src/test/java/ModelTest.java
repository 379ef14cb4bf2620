import java.io.ByteArrayOutputStream;
import java.math.BigInteger;
import java.nio.ByteBuffer;
import java.nio.charset.CharacterCodingException;
import java.nio.charset.StandardCharsets;
import java.security.MessageDigest;
import java.security.NoSuchAlgorithmException;
import java.util.ArrayList;
import java.util.Base64;
import java.util.List;
import java.util.NoSuchElementException;
import java.util.Random;
import java.util.regex.Matcher;
import java.util.regex.Pattern;

/** Random runs of calls, each answer against a second reading of the document, written for plainness alone. */
public final class ModelTest {
    private static final int RUNS = 20000;
    // The document promises nothing behind the 512th call.
    private static final int CALLS = 512;

    public static void main(String[] args) {
        for (int seed = 0; seed < RUNS; seed++) {
            new Run(seed).go();
        }
        OtherEnd.end();
    }

    /** What a call answers, or the name of what it throws. */
    interface Answer {
        Object get();
    }

    static Object answer(Answer call) {
        try {
            return call.get();
        } catch (RuntimeException e) {
            return e.getClass().getSimpleName();
        }
    }

    /** The talk, with all bytes of the frame that is under way read anew at each byte. */
    static final class Model {
        int state = 0;
        int endCode = 0;
        int delivered = 0;
        int pongs = 0;
        String out = "";
        String draft = "";
        String incoming = "";
        String message = null;
        int messageKind = 0;
        List<String> waiting = new ArrayList<>();
        List<Integer> kinds = new ArrayList<>();

        int feed(long w, int n) {
            if (n < 1 || n > 8) {
                throw new IllegalArgumentException();
            }
            if (state == 3) {
                throw new IllegalStateException();
            }
            int before = delivered;
            for (int i = 0; i < n && state != 3; i++) {
                incoming += (char) (w >> 8 * i & 255);
                if (state == 0) {
                    request();
                } else {
                    int code = frame();
                    if (code > 0) {
                        if (state == 1) {
                            out += "\u0088\u0002" + (char) (code / 256) + (char) (code % 256);
                        }
                        state = 3;
                        endCode = code;
                    }
                }
            }
            return delivered - before;
        }

        void request() {
            if (incoming.endsWith("\r\n\r\n")) {
                out += answerTo(incoming.substring(0, incoming.length() - 4));
                state = out.startsWith("HTTP/1.1 101") ? 1 : 3;
                incoming = "";
            } else if (incoming.length() == 400) {
                out += "HTTP/1.1 400 Bad Request\r\n\r\n";
                state = 3;
            }
        }

        static String answerTo(String request) {
            String bad = "HTTP/1.1 400 Bad Request\r\n\r\n";
            String[] lines = request.split("\r\n", -1);
            if (!lines[0].matches("GET [!-~]+ HTTP/1\\.1")) {
                return bad;
            }
            String[] names = {"host", "upgrade", "connection", "sec-websocket-key", "sec-websocket-version"};
            String[] values = new String[5];
            for (int i = 1; i < lines.length; i++) {
                Matcher m = Pattern.compile("([A-Za-z0-9-]+):([ -~\\t]*)").matcher(lines[i]);
                if (!m.matches()) {
                    return bad;
                }
                for (int k = 0; k < 5; k++) {
                    if (names[k].equalsIgnoreCase(m.group(1))) {
                        if (values[k] != null) {
                            return bad;
                        }
                        values[k] = m.group(2).replaceAll("^[ \\t]+|[ \\t]+$", "");
                    }
                }
            }
            for (String value : values) {
                if (value == null) {
                    return bad;
                }
            }
            boolean good = !values[0].isEmpty()
                && values[1].matches("(?i)(.*,)?[ \\t]*websocket[ \\t]*(,.*)?")
                && values[2].matches("(?i)(.*,)?[ \\t]*upgrade[ \\t]*(,.*)?")
                && values[3].matches("[A-Za-z0-9+/]{21}[AQgw]==");
            if (!good) {
                return bad;
            }
            if (!values[4].equals("13")) {
                return "HTTP/1.1 426 Upgrade Required\r\nSec-WebSocket-Version: 13\r\n\r\n";
            }
            return "HTTP/1.1 101 Switching Protocols\r\nUpgrade: websocket\r\nConnection: Upgrade\r\n"
                + "Sec-WebSocket-Accept: " + proof(values[3]) + "\r\n\r\n";
        }

        static String proof(String key) {
            try {
                byte[] all = OtherEnd.signs(key + "258EAFA5-E914-47DA-95CA-C5AB0DC85B11");
                return Base64.getEncoder().encodeToString(MessageDigest.getInstance("SHA-1").digest(all));
            } catch (NoSuchAlgorithmException e) {
                throw new AssertionError(e);
            }
        }

        /** 0, or the code of the violation that the newest byte makes. */
        int frame() {
            String f = incoming;
            int kind = f.charAt(0) & 15;
            boolean last = f.charAt(0) >= 128;
            boolean isShort = kind >= 8;
            if (f.length() == 1) {
                boolean known = kind <= 2 || kind >= 8 && kind <= 10;
                boolean flags = (f.charAt(0) & 0x70) != 0;
                boolean fits = isShort ? last : kind == 0 ? message != null : message == null;
                return known && !flags && fits ? 0 : 1002;
            }
            int number = f.charAt(1) & 127;
            if (f.length() == 2 && (f.charAt(1) < 128 || isShort && number > 125)) {
                return 1002;
            }
            int wide = number == 126 ? 2 : number == 127 ? 8 : 0;
            if (f.length() < 2 + wide) {
                return 0;
            }
            BigInteger length = wide == 0 ? BigInteger.valueOf(number)
                : new BigInteger(1, OtherEnd.signs(f.substring(2, 2 + wide)));
            if (f.length() == 2 + wide) {
                boolean small = wide == 2 && length.intValue() < 126
                    || wide == 8 && (length.bitLength() <= 16 || length.bitLength() == 64);
                if (small) {
                    return 1002;
                }
                int before = message == null ? 0 : message.length();
                return !isShort && length.add(BigInteger.valueOf(before)).compareTo(BigInteger.valueOf(300)) > 0
                    ? 1009 : 0;
            }
            if (f.length() < 6 + wide) {
                return 0;
            }
            StringBuilder content = new StringBuilder();
            for (int i = 6 + wide; i < f.length(); i++) {
                content.append((char) (f.charAt(i) ^ f.charAt(2 + wide + (i - 6 - wide) % 4)));
            }
            return content(kind, last, content.toString(), content.length() == length.intValue());
        }

        int content(int kind, boolean last, String content, boolean whole) {
            if (kind < 8) {
                String all = (message == null ? "" : message) + content;
                int ofKind = kind == 0 ? messageKind : kind;
                if (ofKind == 1 && (whole && last ? !isText(all) : !beginsText(all))) {
                    return 1007;
                }
                if (whole) {
                    incoming = "";
                    message = all;
                    messageKind = ofKind;
                    if (last) {
                        deliver();
                    }
                }
                return 0;
            }
            if (!whole) {
                return 0;
            }
            incoming = "";
            if (kind == 10) {
                pongs++;
            } else if (kind == 9) {
                if (state == 1 && out.length() + 2 + content.length() <= 470) {
                    out += "\u008a" + (char) content.length() + content;
                }
            } else {
                return close(content);
            }
            return 0;
        }

        int close(String content) {
            if (content.length() == 1) {
                return 1002;
            }
            int code = content.isEmpty() ? 1005 : content.charAt(0) * 256 + content.charAt(1);
            if (!content.isEmpty() && !isCode(code)) {
                return 1002;
            }
            if (!content.isEmpty() && !isText(content.substring(2))) {
                return 1007;
            }
            if (state == 1) {
                String same = content.isEmpty() ? "" : content.substring(0, 2);
                out += "\u0088" + (char) same.length() + same;
            }
            state = 3;
            endCode = code;
            return 0;
        }

        void deliver() {
            delivered++;
            if (waiting.size() < 4) {
                waiting.add(message);
                kinds.add(messageKind);
            }
            message = null;
        }

        static boolean isCode(int code) {
            return Integer.toString(code).matches("100[0-3]|100[7-9]|101[01]|[34][0-9]{3}");
        }

        static boolean isText(String signs) {
            try {
                StandardCharsets.UTF_8.newDecoder().decode(ByteBuffer.wrap(OtherEnd.signs(signs)));
                return true;
            } catch (CharacterCodingException e) {
                return false;
            }
        }

        static boolean beginsText(String signs) {
            for (String rest : new String[] {"", "\u0080", "\u00a0", "\u0090", "\u0080\u0080", "\u00a0\u0080",
                "\u0090\u0080", "\u0080\u0080\u0080", "\u0090\u0080\u0080"}) {
                if (isText(signs + rest)) {
                    return true;
                }
            }
            return false;
        }

        int outAt(int i) {
            if (i < 0 || i >= out.length()) {
                throw new IndexOutOfBoundsException();
            }
            return out.charAt(i);
        }

        boolean drop(int n) {
            if (n < 0 || n > out.length()) {
                return false;
            }
            out = out.substring(n);
            return true;
        }

        String at(int k) {
            if (k < 0 || k >= waiting.size()) {
                throw new NoSuchElementException();
            }
            return waiting.get(k);
        }

        int kind(int k) {
            at(k);
            return kinds.get(k);
        }

        int byteAt(int k, int i) {
            String content = at(k);
            if (i < 0 || i >= content.length()) {
                throw new IndexOutOfBoundsException();
            }
            return content.charAt(i);
        }

        int take() {
            int size = at(0).length();
            waiting.remove(0);
            kinds.remove(0);
            return size;
        }

        boolean write(long w, int n) {
            if (n < 1 || n > 8 || draft.length() + n > 100) {
                return false;
            }
            for (int i = 0; i < n; i++) {
                draft += (char) (w >> 8 * i & 255);
            }
            return true;
        }

        int send(int kind, int size) {
            if (kind < 1 || kind > 2 || size < 0 || size > 100 || kind == 1 && !isText(draft)) {
                throw new IllegalArgumentException();
            }
            List<String> pieces = new ArrayList<>();
            String rest = draft;
            while (size > 0 && rest.length() > size) {
                pieces.add(rest.substring(0, size));
                rest = rest.substring(size);
            }
            pieces.add(rest);
            StringBuilder said = new StringBuilder();
            for (int i = 0; i < pieces.size(); i++) {
                int first = (i == 0 ? kind : 0) | (i + 1 == pieces.size() ? 128 : 0);
                said.append((char) first).append((char) pieces.get(i).length()).append(pieces.get(i));
            }
            say(said.toString());
            return pieces.size();
        }

        void say(String said) {
            if (state != 1 || out.length() + said.length() > 400) {
                throw new IllegalStateException();
            }
            out += said;
        }

        void ping() {
            say("\u0089" + (char) draft.length() + draft);
        }

        void closeWith(int code) {
            if (!isCode(code) || !isText(draft)) {
                throw new IllegalArgumentException();
            }
            if (state != 1) {
                throw new IllegalStateException();
            }
            out += "\u0088" + (char) (draft.length() + 2) + (char) (code / 256) + (char) (code % 256) + draft;
            state = 2;
        }
    }

    /** One run: bytes of a mostly good talk, with other calls in between. */
    static final class Run {
        private static final String[] LINES = {"Host: h", "Upgrade: websocket", "Connection: keep-alive, Upgrade",
            "Sec-WebSocket-Key: " + OtherEnd.KEY, "Sec-WebSocket-Version: 13"};
        private final Random random;
        private final int seed;
        private final int slips;
        private final FramedTalk x = new FramedTalk();
        private final Model m = new Model();
        private final ByteArrayOutputStream coming = new ByteArrayOutputStream();
        private int calls = 0;
        private int came = 0;
        private boolean underWay = false;
        private String last = "";

        Run(int seed) {
            this.seed = seed;
            random = new Random(seed);
            slips = new int[] {1000000, 400, 60, 12}[seed % 4];
        }

        void go() {
            comeIn(request());
            int after = 12 + random.nextInt(60);
            while (calls < CALLS - 2 && after > 0) {
                call();
                look();
                if (m.state == 3) {
                    after--;
                }
            }
            for (int i = m.out.length() - 1; i >= 0 && calls < CALLS; i--) {
                same("outAt " + i + " at the end", x.outAt(i), m.outAt(i));
            }
        }

        private boolean slip() {
            return random.nextInt(slips) == 0;
        }

        private void comeIn(byte[] row) {
            for (byte b : row) {
                coming.write(slip() && slip() ? random.nextInt(256) : b);
            }
        }

        private byte[] request() {
            List<String> lines = new ArrayList<>(List.of(LINES));
            java.util.Collections.shuffle(lines, random);
            if (slip()) {
                lines.remove(random.nextInt(lines.size()));
            }
            if (slip()) {
                lines.add(LINES[random.nextInt(5)]);
            }
            if (slip()) {
                lines.add("x: " + "y".repeat(random.nextInt(300)));
            }
            byte[] row = OtherEnd.signs("GET / HTTP/1.1\r\n" + String.join("\r\n", lines) + "\r\n\r\n");
            if (slip()) {
                row[random.nextInt(row.length)] = (byte) random.nextInt(256);
            }
            return row;
        }

        private byte[] content(int most) {
            int size = random.nextInt(random.nextInt(8) == 0 ? most + 1 : 12);
            StringBuilder text = new StringBuilder();
            while (text.length() < size) {
                text.appendCodePoint(new int[] {'a', 0xE9, 0x20AC, 0x1F600, 0x10FFFF, 0xD7FF, 0x800}[random.nextInt(7)]);
            }
            byte[] row = OtherEnd.utf8(text.toString());
            row = java.util.Arrays.copyOf(row, Math.min(row.length, size));
            if (slip() && row.length > 0) {
                row[random.nextInt(row.length)] = (byte) random.nextInt(256);
            }
            return row;
        }

        private byte[] wholeText(int most) {
            byte[] row = content(most);
            int size = row.length;
            while (size > 0 && !slip() && !Model.isText(OtherEnd.asSigns(java.util.Arrays.copyOf(row, size)))) {
                size--;
            }
            return java.util.Arrays.copyOf(row, size);
        }

        private byte[] nextFrame() {
            byte[] mask = new byte[4];
            random.nextBytes(mask);
            int which = random.nextInt(12);
            if (which == 0 && random.nextInt(6) == 0) {
                return OtherEnd.frame(136, random.nextInt(3) == 0 ? new byte[0]
                    : OtherEnd.join(OtherEnd.bytes(random.nextInt(3) == 0 ? 15 : 3, 228 + random.nextInt(20)), wholeText(120)), mask);
            }
            if (which < 4) {
                return OtherEnd.frame(137 + random.nextInt(2), content(125), mask);
            }
            if (slip()) {
                return OtherEnd.bytes(random.nextInt(256), random.nextInt(256), random.nextInt(3), random.nextInt(256));
            }
            if (slip()) {
                return OtherEnd.longHead(130, random.nextLong() >>> random.nextInt(64));
            }
            boolean isLast = random.nextInt(3) != 0;
            int first = (underWay ? 0 : 1 + random.nextInt(2)) + (isLast ? 128 : 0);
            underWay = !isLast;
            return OtherEnd.frame(first, random.nextInt(4) == 0 ? content(300) : wholeText(160), mask);
        }

        private void call() {
            if (random.nextInt(10) < 7 || m.state == 0 && random.nextInt(10) != 0) {
                feedSome();
                return;
            }
            int n = random.nextInt(12) == 0 ? random.nextInt(600) - 5 : random.nextInt(9);
            long w = random.nextInt(4) == 0 ? random.nextLong() : OtherEnd.word(OtherEnd.signs("some\u00c3\u00a9..."), 0, 8);
            int kind = random.nextInt(12) == 0 ? random.nextInt(6) - 1 : 1 + random.nextInt(2);
            switch (random.nextInt(9)) {
                case 0:
                case 1:
                    same("write " + n, answer(() -> x.write(w, n)), answer(() -> m.write(w, n)));
                    break;
                case 2:
                    same("clear", answer(() -> { x.clear(); return ""; }), answer(() -> m.draft = ""));
                    break;
                case 3:
                    int size = random.nextInt(8) == 0 ? random.nextInt(105) - 2 : random.nextInt(12);
                    same("send " + kind + " " + size, answer(() -> x.send(kind, size)), answer(() -> m.send(kind, size)));
                    break;
                case 4:
                    same("ping", answer(() -> { x.ping(); return ""; }), answer(() -> { m.ping(); return ""; }));
                    break;
                case 5:
                    int code = random.nextInt(10) == 0 ? 990 + random.nextInt(30) : 0;
                    same("close " + code, answer(() -> { x.close(code); return ""; }),
                        answer(() -> { m.closeWith(code); return ""; }));
                    break;
                case 6:
                    same("take", answer(() -> x.take()), answer(() -> m.take()));
                    break;
                default:
                    int drop = random.nextInt(3) == 0 ? m.out.length() : n;
                    same("drop " + drop, answer(() -> x.drop(drop)), answer(() -> m.drop(drop)));
            }
        }

        private void feedSome() {
            int n = random.nextInt(60) == 0 ? random.nextInt(12) - 1 : m.state == 0 ? 8 : 1 + random.nextInt(8);
            while (coming.size() < came + 8) {
                comeIn(nextFrame());
            }
            byte[] row = coming.toByteArray();
            int whole = Math.max(0, Math.min(8, n));
            long w = OtherEnd.word(row, came, 8);
            if (m.state != 3) {
                came += whole;
            }
            same("feed " + w + " " + n, answer(() -> x.feed(w, n)), answer(() -> m.feed(w, n)));
        }

        private void look() {
            int k = random.nextInt(6) - 1;
            int i = random.nextInt(2) == 0 ? m.out.length() - 1 : random.nextInt(m.out.length() + 3) - 1;
            int j = random.nextInt(random.nextInt(2) == 0 ? 8 : 310) - 1;
            switch (random.nextInt(10)) {
                case 0:
                    same("state", x.state(), m.state);
                    break;
                case 1:
                    same("endCode", x.endCode(), m.endCode);
                    break;
                case 2:
                    same("outLength", x.outLength(), m.out.length());
                    break;
                case 3:
                    same("messages", x.messages(), m.waiting.size());
                    break;
                case 4:
                    same("delivered", x.delivered(), m.delivered);
                    break;
                case 5:
                    same("pongs", x.pongs(), m.pongs);
                    break;
                case 6:
                    same("kind " + k, answer(() -> x.kind(k)), answer(() -> m.kind(k)));
                    break;
                case 7:
                    same("length " + k, answer(() -> x.length(k)), answer(() -> m.at(k).length()));
                    break;
                case 8:
                    same("byteAt " + k + " " + j, answer(() -> x.byteAt(k, j)), answer(() -> m.byteAt(k, j)));
                    break;
                default:
                    same("outAt " + i, answer(() -> x.outAt(i)), answer(() -> m.outAt(i)));
            }
        }

        private void same(String what, Object got, Object want) {
            calls++;
            last = got.equals(want) ? what : last;
            OtherEnd.due("seed " + seed + " " + what + " (behind " + last + ")", got, want);
        }
    }
}
