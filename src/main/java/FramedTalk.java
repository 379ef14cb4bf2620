import java.util.NoSuchElementException;

/** The called end of a talk in frames; README.md says how it is used. */
public final class FramedTalk {
    private static final int ASKED = 0;
    private static final int OPEN = 1;
    private static final int CLOSING = 2;
    private static final int CLOSED = 3;

    private static final int MORE = 0;
    private static final int TEXT = 1;
    private static final int BYTES = 2;
    private static final int CLOSE = 8;
    private static final int PING = 9;
    private static final int PONG = 10;

    private static final int LAST = 128;
    private static final int HEAD_SIZE = 2;

    private static final int WRONG_FORM = 1002;
    private static final int NO_CODE = 1005;
    private static final int NO_TEXT = 1007;
    private static final int TOO_LONG = 1009;

    private static final int REQUEST_LIMIT = 400;
    private static final int MESSAGE_LIMIT = 300;
    private static final int SHORT_LIMIT = 125;
    private static final int WAITING_LIMIT = 4;
    private static final int DRAFT_LIMIT = 100;
    private static final int SEND_LIMIT = 400;
    private static final int PONG_LIMIT = 470;
    // close() speaks however much OUT has, and nothing is said after it.
    private static final int OUT_LIMIT = PONG_LIMIT + HEAD_SIZE + 2 + DRAFT_LIMIT;

    private static final int CR = 13;
    private static final int LF = 10;

    private static final String REFUSAL = "HTTP/1.1 400 Bad Request\r\n\r\n";
    private static final String OTHER_VERSION =
        "HTTP/1.1 426 Upgrade Required\r\nSec-WebSocket-Version: 13\r\n\r\n";
    private static final String WELCOME =
        "HTTP/1.1 101 Switching Protocols\r\nUpgrade: websocket\r\nConnection: Upgrade\r\nSec-WebSocket-Accept: ";
    private static final String WELCOME_END = "\r\n\r\n";
    private static final String KEY_TAIL = "258EAFA5-E914-47DA-95CA-C5AB0DC85B11";
    private static final String SIGNS = "ABCDEFGHIJKLMNOPQRSTUVWXYZabcdefghijklmnopqrstuvwxyz0123456789+/";

    private final Request request;
    private final Frames frames;
    private final Waiting waiting;
    private final ByteRow out;
    private final ByteRow draft;
    private final TextCheck draftCheck;
    private int state;
    private int endCode;
    private int delivered;
    private int pongs;

    public FramedTalk() {
        request = new Request();
        frames = new Frames();
        waiting = new Waiting();
        out = new ByteRow(OUT_LIMIT);
        draft = new ByteRow(DRAFT_LIMIT);
        draftCheck = new TextCheck();
        state = ASKED;
    }

    public int feed(long w, int n) throws IllegalArgumentException, IllegalStateException {
        if (!isByteCount(n)) {
            throw new IllegalArgumentException();
        }
        if (state == CLOSED) {
            throw new IllegalStateException();
        }
        int before = delivered;
        for (int i = 0; i < n; i++) {
            int b = byteOf(w, i);
            if (state == ASKED) {
                hearRequest(b);
            } else if (state != CLOSED) {
                hearFrame(b);
            }
        }
        return delivered - before;
    }

    public int state() {
        return state;
    }

    public int endCode() {
        return endCode;
    }

    public int outLength() {
        return out.size();
    }

    public int outAt(int i) throws IndexOutOfBoundsException {
        if (!out.has(i)) {
            throw new IndexOutOfBoundsException();
        }
        return out.at(i);
    }

    public boolean drop(int n) {
        return out.cutFront(n);
    }

    public int messages() {
        return waiting.size();
    }

    public int delivered() {
        return delivered;
    }

    public int kind(int k) throws NoSuchElementException {
        if (!waiting.has(k)) {
            throw new NoSuchElementException();
        }
        return waiting.kindOf(k);
    }

    public int length(int k) throws NoSuchElementException {
        if (!waiting.has(k)) {
            throw new NoSuchElementException();
        }
        return waiting.lengthOf(k);
    }

    public int byteAt(int k, int i) throws NoSuchElementException, IndexOutOfBoundsException {
        if (!waiting.has(k)) {
            throw new NoSuchElementException();
        }
        if (i < 0 || i >= waiting.lengthOf(k)) {
            throw new IndexOutOfBoundsException();
        }
        return waiting.contentAt(k, i);
    }

    public int take() throws NoSuchElementException {
        if (!waiting.has(0)) {
            throw new NoSuchElementException();
        }
        int size = waiting.lengthOf(0);
        waiting.removeOldest();
        return size;
    }

    public int pongs() {
        return pongs;
    }

    public boolean write(long w, int n) {
        if (!isByteCount(n) || draft.size() + n > DRAFT_LIMIT) {
            return false;
        }
        for (int i = 0; i < n; i++) {
            draft.add(byteOf(w, i));
        }
        return true;
    }

    public void clear() {
        draft.empty();
    }

    public int send(int kind, int size) throws IllegalArgumentException, IllegalStateException {
        if (kind != TEXT && kind != BYTES || size < 0 || size > DRAFT_LIMIT) {
            throw new IllegalArgumentException();
        }
        if (kind == TEXT && !draftCheck.isText(draft, 0)) {
            throw new IllegalArgumentException();
        }
        int piece = size == 0 ? DRAFT_LIMIT : size;
        int count = draft.size() == 0 ? 1 : (draft.size() + piece - 1) / piece;
        if (!maySay(count * HEAD_SIZE + draft.size())) {
            throw new IllegalStateException();
        }
        sayPieces(kind, piece, count);
        return count;
    }

    public void ping() throws IllegalStateException {
        if (!maySay(HEAD_SIZE + draft.size())) {
            throw new IllegalStateException();
        }
        say(LAST + PING, draft, 0, draft.size());
    }

    public void close(int code) throws IllegalArgumentException, IllegalStateException {
        if (!mayStandInClose(code) || !draftCheck.isText(draft, 0)) {
            throw new IllegalArgumentException();
        }
        if (state != OPEN) {
            throw new IllegalStateException();
        }
        sayHead(LAST + CLOSE, 2 + draft.size());
        sayCode(code);
        out.addPart(draft, 0, draft.size());
        state = CLOSING;
    }

    private static boolean isByteCount(int n) {
        return n >= 1 && n <= 8;
    }

    private static int byteOf(long w, int i) {
        return (int) (w >>> (8 * i)) & 255;
    }

    private static boolean mayStandInClose(int code) {
        return code >= 1000 && code <= 1003 || code >= 1007 && code <= 1011 || code >= 3000 && code <= 4999;
    }

    private void hearRequest(int b) {
        request.gather(b);
        if (request.isComplete()) {
            answerRequest(request.judge());
        } else if (request.isAtLimit()) {
            answerRequest(Request.BAD);
        }
    }

    private void answerRequest(int verdict) {
        if (verdict == Request.GOOD) {
            out.addText(WELCOME);
            Proof proof = new Proof();
            proof.putInto(out, request);
            out.addText(WELCOME_END);
            state = OPEN;
        } else {
            out.addText(verdict == Request.OLD ? OTHER_VERSION : REFUSAL);
            state = CLOSED;
        }
    }

    private void hearFrame(int b) {
        int found = frames.read(b);
        if (found == Frames.WHOLE) {
            finishFrame();
        } else if (found != Frames.NOTHING) {
            violate(found);
        }
    }

    private void violate(int code) {
        if (state == OPEN) {
            sayHead(LAST + CLOSE, 2);
            sayCode(code);
        }
        endWith(code);
    }

    private void endWith(int code) {
        endCode = code;
        state = CLOSED;
    }

    private void finishFrame() {
        switch (frames.frameKind()) {
            case CLOSE:
                hearClose(frames.shortContent());
                break;
            case PING:
                hearPing(frames.shortContent());
                break;
            case PONG:
                pongs++;
                break;
            default:
                if (frames.isLast()) {
                    delivered++;
                    waiting.put(frames.messageKind(), frames.message());
                }
        }
    }

    private void hearClose(ByteRow content) {
        boolean hasCode = content.size() >= 2;
        if (state == OPEN) {
            say(LAST + CLOSE, content, 0, hasCode ? 2 : 0);
        }
        endWith(hasCode ? content.pairAtStart() : NO_CODE);
    }

    private void hearPing(ByteRow content) {
        if (state == OPEN && out.size() + HEAD_SIZE + content.size() <= PONG_LIMIT) {
            say(LAST + PONG, content, 0, content.size());
        }
    }

    private boolean maySay(int size) {
        return state == OPEN && out.size() + size <= SEND_LIMIT;
    }

    private void sayPieces(int kind, int piece, int count) {
        for (int f = 0; f < count; f++) {
            int from = f * piece;
            int to = Math.min(from + piece, draft.size());
            int first = (f == 0 ? kind : MORE) + (f == count - 1 ? LAST : 0);
            say(first, draft, from, to);
        }
    }

    private void say(int first, ByteRow content, int from, int to) {
        sayHead(first, to - from);
        out.addPart(content, from, to);
    }

    // No frame that this end says has more than 125 bytes, so one byte always holds its length.
    private void sayHead(int first, int size) {
        out.add(first);
        out.add(size);
    }

    private void sayCode(int code) {
        out.add(code >> 8);
        out.add(code & 255);
    }

    /** A row of bytes with a fixed room; what has no room is not taken. */
    private static final class ByteRow {
        private final int[] row;
        private int count;

        ByteRow(int room) {
            row = new int[room];
        }

        int size() {
            return count;
        }

        boolean has(int i) {
            return i >= 0 && i < count;
        }

        /** -1, which is no byte, where there is none: so that looking past an end finds nothing. */
        int at(int i) {
            return i >= 0 && i < count ? row[i] : -1;
        }

        int pairAtStart() {
            return count < 2 ? -1 : row[0] * 256 + row[1];
        }

        boolean isFull() {
            return count == row.length;
        }

        void empty() {
            count = 0;
        }

        void add(int b) {
            if (count < row.length) {
                row[count] = b;
                count++;
            }
        }

        void addText(String text) {
            for (int i = 0; i < text.length(); i++) {
                add(text.charAt(i));
            }
        }

        void addPart(ByteRow other, int from, int to) {
            for (int i = from; i < to; i++) {
                add(other.at(i));
            }
        }

        boolean cutFront(int n) {
            if (n < 0 || n > count) {
                return false;
            }
            System.arraycopy(row, n, row, 0, count - n);
            count -= n;
            return true;
        }

        void copyTo(int[] target, int from) {
            if (from >= 0 && from + count <= target.length) {
                System.arraycopy(row, 0, target, from, count);
            }
        }
    }

    /** Tells, byte by byte, whether a row of bytes is a text of characters. */
    private static final class TextCheck {
        private int due;
        private int lowest;
        private int highest;

        void restart() {
            due = 0;
        }

        boolean isWhole() {
            return due == 0;
        }

        boolean accepts(int b) {
            if (due == 0) {
                return begins(b);
            }
            if (b < lowest || b > highest) {
                return false;
            }
            due--;
            lowest = 128;
            highest = 191;
            return true;
        }

        boolean isText(ByteRow bytes, int from) {
            restart();
            for (int i = from; i < bytes.size(); i++) {
                if (!accepts(bytes.at(i))) {
                    return false;
                }
            }
            return isWhole();
        }

        private boolean begins(int b) {
            if (b > 127 && b < 194 || b > 244) {
                return false;
            }
            due = b < 128 ? 0 : b < 224 ? 1 : b < 240 ? 2 : 3;
            lowest = b == 224 ? 160 : b == 240 ? 144 : 128;
            highest = b == 237 ? 159 : b == 244 ? 143 : 191;
            return true;
        }
    }

    /** The request: gathers its bytes, and judges it when it is complete. */
    private static final class Request {
        static final int BAD = 0;
        static final int OLD = 1;
        static final int GOOD = 2;

        private static final int HOST = 0;
        private static final int UPGRADE = 1;
        private static final int CONNECTION = 2;
        private static final int KEY = 3;
        private static final int VERSION = 4;
        private static final int NAMES = 5;
        private static final int OTHER = -1;

        private static final int END_SIZE = 4;
        private static final int KEY_SIZE = 24;
        private static final int KEY_SIGNS = 22;

        private final ByteRow bytes;
        private final int[] seen;
        private final int[] starts;
        private final int[] ends;

        Request() {
            bytes = new ByteRow(REQUEST_LIMIT);
            seen = new int[NAMES];
            starts = new int[NAMES];
            ends = new int[NAMES];
        }

        void gather(int b) {
            bytes.add(b);
        }

        boolean isAtLimit() {
            return bytes.isFull();
        }

        boolean isComplete() {
            int end = bytes.size() - END_SIZE;
            return isLineEnd(end) && isLineEnd(end + 2);
        }

        int judge() {
            if (!readLines() || !hasDueFields()) {
                return BAD;
            }
            return isSame(starts[VERSION], ends[VERSION], "13") ? GOOD : OLD;
        }

        void putKeyInto(ByteRow target) {
            target.addPart(bytes, starts[KEY], ends[KEY]);
        }

        private boolean isLineEnd(int i) {
            return bytes.at(i) == CR && bytes.at(i + 1) == LF;
        }

        private boolean readLines() {
            int end = bytes.size() - END_SIZE;
            int from = 0;
            for (int i = 0; i <= end; i++) {
                if (isLineEnd(i)) {
                    boolean good = from == 0 ? isFirstLine(i) : readField(from, i);
                    if (!good) {
                        return false;
                    }
                    from = i + 2;
                }
            }
            return true;
        }

        private boolean isFirstLine(int to) {
            int targetStart = 4;
            int targetEnd = to - 9;
            return targetEnd > targetStart
                && isExactly(0, "GET ")
                && isExactly(targetEnd, " HTTP/1.1")
                && allWithin(targetStart, targetEnd, 33);
        }

        private boolean isExactly(int from, String text) {
            for (int i = 0; i < text.length(); i++) {
                if (bytes.at(from + i) != text.charAt(i)) {
                    return false;
                }
            }
            return true;
        }

        private boolean allWithin(int from, int to, int lowest) {
            for (int i = from; i < to; i++) {
                if (bytes.at(i) < lowest || bytes.at(i) > 126) {
                    return false;
                }
            }
            return true;
        }

        private boolean readField(int from, int to) {
            int colon = from;
            while (colon < to && isNameSign(bytes.at(colon))) {
                colon++;
            }
            if (colon == from || colon == to || bytes.at(colon) != ':') {
                return false;
            }
            for (int i = colon + 1; i < to; i++) {
                if (bytes.at(i) != 9 && (bytes.at(i) < 32 || bytes.at(i) > 126)) {
                    return false;
                }
            }
            keepField(nameNumber(from, colon), colon + 1, to);
            return true;
        }

        private static boolean isNameSign(int b) {
            return isLetterOrDigit(b) || b == '-';
        }

        private static boolean isLetterOrDigit(int b) {
            return b >= 'a' && b <= 'z' || b >= 'A' && b <= 'Z' || b >= '0' && b <= '9';
        }

        private int nameNumber(int from, int to) {
            if (isSame(from, to, "host")) {
                return HOST;
            }
            if (isSame(from, to, "upgrade")) {
                return UPGRADE;
            }
            if (isSame(from, to, "connection")) {
                return CONNECTION;
            }
            if (isSame(from, to, "sec-websocket-key")) {
                return KEY;
            }
            return isSame(from, to, "sec-websocket-version") ? VERSION : OTHER;
        }

        private void keepField(int name, int from, int to) {
            if (name >= 0 && name < NAMES) {
                seen[name]++;
                starts[name] = skipBlanks(from, to);
                ends[name] = skipBlanksBack(from, to);
            }
        }

        /** Whether the bytes are this text of small letters, capitals counting the same. */
        private boolean isSame(int from, int to, String small) {
            if (to - from != small.length()) {
                return false;
            }
            for (int i = 0; i < small.length(); i++) {
                if (asSmall(bytes.at(from + i)) != small.charAt(i)) {
                    return false;
                }
            }
            return true;
        }

        private static int asSmall(int b) {
            return b >= 'A' && b <= 'Z' ? b + 32 : b;
        }

        private int skipBlanks(int from, int to) {
            int i = from;
            while (i < to && isBlank(bytes.at(i))) {
                i++;
            }
            return i;
        }

        private int skipBlanksBack(int from, int to) {
            int i = to;
            while (i > from && isBlank(bytes.at(i - 1))) {
                i--;
            }
            return i;
        }

        private static boolean isBlank(int b) {
            return b == 32 || b == 9;
        }

        private boolean hasDueFields() {
            for (int name = 0; name < NAMES; name++) {
                if (seen[name] != 1) {
                    return false;
                }
            }
            return starts[HOST] < ends[HOST]
                && hasWord(UPGRADE, "websocket")
                && hasWord(CONNECTION, "upgrade")
                && isKey(starts[KEY], ends[KEY]);
        }

        private boolean hasWord(int name, String small) {
            int end = ends[name];
            int from = starts[name];
            for (int i = from; i <= end; i++) {
                if (i == end || bytes.at(i) == ',') {
                    if (isSame(skipBlanks(from, i), skipBlanksBack(from, i), small)) {
                        return true;
                    }
                    from = i + 1;
                }
            }
            return false;
        }

        private boolean isKey(int from, int to) {
            if (to - from != KEY_SIZE || !isExactly(from + KEY_SIGNS, "==")) {
                return false;
            }
            for (int i = from; i < from + KEY_SIGNS; i++) {
                int b = bytes.at(i);
                if (!isLetterOrDigit(b) && b != '+' && b != '/') {
                    return false;
                }
            }
            int lastSign = bytes.at(from + KEY_SIGNS - 1);
            return lastSign == 'A' || lastSign == 'Q' || lastSign == 'g' || lastSign == 'w';
        }
    }

    /** The digest of a key, in base64; made only when a request is good. */
    private static final class Proof {
        private static final int BLOCK = 64;
        private static final int PADDED = 128;
        private static final int ROUNDS = 80;
        private static final int WORDS = 5;

        private final ByteRow bytes;
        private final int[] w;
        private final int[] h;

        Proof() {
            bytes = new ByteRow(PADDED);
            w = new int[ROUNDS];
            h = new int[WORDS];
        }

        void putInto(ByteRow target, Request request) {
            request.putKeyInto(bytes);
            bytes.addText(KEY_TAIL);
            pad();
            startWords();
            for (int from = 0; from < PADDED; from += BLOCK) {
                spread(from);
                mix();
            }
            putBase64(target);
        }

        private void pad() {
            int bits = bytes.size() * 8;
            bytes.add(128);
            for (int i = bytes.size(); i < PADDED - 2; i++) {
                bytes.add(0);
            }
            bytes.add(bits >> 8);
            bytes.add(bits & 255);
        }

        private void startWords() {
            h[0] = 1732584193;
            h[1] = -271733879;
            h[2] = -1732584194;
            h[3] = 271733878;
            h[4] = -1009589776;
        }

        private void spread(int from) {
            for (int t = 0; t < 16; t++) {
                int i = from + 4 * t;
                w[t] = bytes.at(i) << 24 | bytes.at(i + 1) << 16 | bytes.at(i + 2) << 8 | bytes.at(i + 3);
            }
            for (int t = 16; t < ROUNDS; t++) {
                w[t] = rotated(w[t - 3] ^ w[t - 8] ^ w[t - 14] ^ w[t - 16], 1);
            }
        }

        private void mix() {
            int a = h[0];
            int b = h[1];
            int c = h[2];
            int d = h[3];
            int e = h[4];
            for (int t = 0; t < ROUNDS; t++) {
                int x = rotated(a, 5) + blend(t, b, c, d) + e + w[t];
                e = d;
                d = c;
                c = rotated(b, 30);
                b = a;
                a = x;
            }
            h[0] += a;
            h[1] += b;
            h[2] += c;
            h[3] += d;
            h[4] += e;
        }

        private static int rotated(int x, int n) {
            return x << n | x >>> (32 - n);
        }

        /** F plus K of step t. */
        private static int blend(int t, int b, int c, int d) {
            if (t < 20) {
                return (b & c | ~b & d) + 1518500249;
            }
            if (t < 40) {
                return (b ^ c ^ d) + 1859775393;
            }
            if (t < 60) {
                return (b & c | b & d | c & d) - 1894007588;
            }
            return (b ^ c ^ d) - 899497514;
        }

        // The digest is 20 bytes: six threes, and two bytes at the end, which are three signs and =.
        private void putBase64(ByteRow target) {
            for (int i = 0; i < 18; i += 3) {
                int three = digestByte(i) << 16 | digestByte(i + 1) << 8 | digestByte(i + 2);
                putSigns(target, three, 4);
            }
            putSigns(target, digestByte(18) << 16 | digestByte(19) << 8, 3);
            target.add('=');
        }

        private int digestByte(int i) {
            return i < 0 || i >= 4 * WORDS ? 0 : h[i >> 2] >>> (24 - 8 * (i & 3)) & 255;
        }

        private static void putSigns(ByteRow target, int three, int count) {
            for (int i = 0; i < count; i++) {
                target.add(SIGNS.charAt(three >>> (18 - 6 * i) & 63));
            }
        }
    }

    /** Reads frames byte by byte, and puts the message under way together. */
    private static final class Frames {
        /** What read answers: one of these two, or the code of a violation. */
        static final int NOTHING = 0;
        static final int WHOLE = 1;

        private static final int AT_FIRST = 0;
        private static final int AT_SECOND = 1;
        private static final int AT_LENGTH = 2;
        private static final int AT_MASK = 3;
        private static final int AT_CONTENT = 4;

        private final int[] mask;
        private final ByteRow message;
        private final ByteRow shortContent;
        private final TextCheck messageCheck;
        private final TextCheck reasonCheck;
        private int place;
        private int frameKind;
        private boolean last;
        private boolean underWay;
        private int messageKind;
        private int lengthSize;
        private int lengthRead;
        private long contentLength;
        private int maskRead;
        private int contentRead;

        Frames() {
            mask = new int[4];
            message = new ByteRow(MESSAGE_LIMIT);
            shortContent = new ByteRow(SHORT_LIMIT);
            messageCheck = new TextCheck();
            reasonCheck = new TextCheck();
            place = AT_FIRST;
        }

        int frameKind() {
            return frameKind;
        }

        boolean isLast() {
            return last;
        }

        int messageKind() {
            return messageKind;
        }

        ByteRow message() {
            return message;
        }

        ByteRow shortContent() {
            return shortContent;
        }

        int read(int b) {
            int found = readPart(b);
            if (found == NOTHING && place == AT_CONTENT && contentRead == contentLength) {
                place = AT_FIRST;
                return judgeFrame();
            }
            return found;
        }

        private int readPart(int b) {
            switch (place) {
                case AT_FIRST:
                    return readFirst(b);
                case AT_SECOND:
                    return readSecond(b);
                case AT_LENGTH:
                    return readLength(b);
                case AT_MASK:
                    return readMask(b);
                default:
                    return readContent(b);
            }
        }

        private int readFirst(int b) {
            frameKind = b & 15;
            last = b >= LAST;
            if ((b & 112) != 0 || !mayComeNow()) {
                return WRONG_FORM;
            }
            if (isShort()) {
                shortContent.empty();
            } else if (frameKind != MORE) {
                beginMessage();
            }
            place = AT_SECOND;
            return NOTHING;
        }

        private boolean isShort() {
            return frameKind >= CLOSE;
        }

        private boolean mayComeNow() {
            switch (frameKind) {
                case MORE:
                    return underWay;
                case TEXT:
                case BYTES:
                    return !underWay;
                case CLOSE:
                case PING:
                case PONG:
                    return last;
                default:
                    return false;
            }
        }

        private void beginMessage() {
            underWay = true;
            messageKind = frameKind;
            message.empty();
            messageCheck.restart();
        }

        private int readSecond(int b) {
            int number = b & 127;
            if (b < 128 || isShort() && number > SHORT_LIMIT) {
                return WRONG_FORM;
            }
            if (number <= 125) {
                contentLength = number;
                return judgeLength();
            }
            lengthSize = number == 126 ? 2 : 8;
            lengthRead = 0;
            contentLength = 0;
            place = AT_LENGTH;
            return NOTHING;
        }

        private int readLength(int b) {
            contentLength = contentLength << 8 | b;
            lengthRead++;
            if (lengthRead < lengthSize) {
                return NOTHING;
            }
            // A highest bit of 1 makes the long negative, so it is below the lowest one that may be, too.
            if (contentLength < (lengthSize == 2 ? 126 : 65536)) {
                return WRONG_FORM;
            }
            return judgeLength();
        }

        private int judgeLength() {
            if (!isShort() && contentLength > MESSAGE_LIMIT - message.size()) {
                return TOO_LONG;
            }
            maskRead = 0;
            place = AT_MASK;
            return NOTHING;
        }

        private int readMask(int b) {
            mask[maskRead & 3] = b;
            maskRead++;
            if (maskRead == 4) {
                contentRead = 0;
                place = AT_CONTENT;
            }
            return NOTHING;
        }

        private int readContent(int b) {
            int plain = b ^ mask[contentRead & 3];
            contentRead++;
            if (isShort()) {
                shortContent.add(plain);
                return NOTHING;
            }
            if (messageKind == TEXT && !messageCheck.accepts(plain)) {
                return NO_TEXT;
            }
            message.add(plain);
            return NOTHING;
        }

        private int judgeFrame() {
            if (isShort()) {
                return frameKind == CLOSE ? judgeClose() : WHOLE;
            }
            if (last) {
                underWay = false;
                if (messageKind == TEXT && !messageCheck.isWhole()) {
                    return NO_TEXT;
                }
            }
            return WHOLE;
        }

        private int judgeClose() {
            if (shortContent.size() == 0) {
                return WHOLE;
            }
            // A content of one byte has no pair, and so no code that may stand there.
            if (!mayStandInClose(shortContent.pairAtStart())) {
                return WRONG_FORM;
            }
            return reasonCheck.isText(shortContent, 2) ? WHOLE : NO_TEXT;
        }
    }

    /** The delivered messages that wait, the oldest first, in a ring of places. */
    private static final class Waiting {
        private final int[] contents;
        private final int[] kinds;
        private final int[] lengths;
        private int oldest;
        private int count;

        Waiting() {
            contents = new int[WAITING_LIMIT * MESSAGE_LIMIT];
            kinds = new int[WAITING_LIMIT];
            lengths = new int[WAITING_LIMIT];
        }

        int size() {
            return count;
        }

        boolean has(int k) {
            return k >= 0 && k < count;
        }

        int kindOf(int k) {
            return kinds[placeOf(k)];
        }

        int lengthOf(int k) {
            return lengths[placeOf(k)];
        }

        int contentAt(int k, int i) {
            return i < 0 || i >= MESSAGE_LIMIT ? 0 : contents[placeOf(k) * MESSAGE_LIMIT + i];
        }

        /** One that comes when all places are taken is lost. */
        void put(int kind, ByteRow content) {
            if (count < WAITING_LIMIT) {
                int place = placeOf(count);
                kinds[place] = kind;
                lengths[place] = content.size();
                content.copyTo(contents, place * MESSAGE_LIMIT);
                count++;
            }
        }

        void removeOldest() {
            if (count > 0) {
                oldest = placeOf(1);
                count--;
            }
        }

        private int placeOf(int k) {
            return Math.floorMod(oldest + k, WAITING_LIMIT);
        }
    }
}
