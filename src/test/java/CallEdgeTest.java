import java.util.Arrays;

/** The edges of feed, of the states and of the number of calls; over each test stand the document's words for it. */
public final class CallEdgeTest {
    private static final byte[] EMPTY_TEXT = {(byte) 129, (byte) 128, 1, 2, 3, 4};
    private static final byte[] EMPTY_PONG = {(byte) 138, (byte) 128, 1, 2, 3, 4};
    private static final byte[] EMPTY_PING = {(byte) 137, (byte) 128, 1, 2, 3, 4};
    private static final int CALLS = 512;

    public static void main(String[] args) {
        newObject();
        numberOfBytes();
        numberOfBytesWhenClosed();
        closedInEachWay();
        refusedFeedReadsNothing();
        lowestByteFirst();
        everyByte();
        lostBytes();
        requestAndFrameInOneCall();
        everyState();
        objectsOnTheirOwn();
        manyMessagesIn512Calls();
        manyPongsIn512Calls();
        manyPingsIn512Calls();
        manyDraftsIn512Calls();
        manyTakesIn512Calls();
        OtherEnd.end();
    }

    /** "In state ASKED, nothing read; no messages." */
    private static void newObject() {
        FramedTalk x = new FramedTalk();
        OtherEnd.due("a new one", Edge.picture(x), "state 0, end 0, delivered 0, pongs 0, OUT 0:");
        OtherEnd.due("messages of a new one", x.messages(), 0);
        Edge.index("outAt(0) of a new one", x, () -> x.outAt(0));
        Edge.element("take of a new one", x, () -> x.take());
        Edge.state("ping of a new one", x, () -> x.ping());
        OtherEnd.feed(x, OtherEnd.signs(OtherEnd.goodRequest(OtherEnd.KEY)));
        OtherEnd.due("state when nothing else was read before", x.state(), OtherEnd.OPEN);
        Edge.dueDraft("of a new one", x, new byte[0]);
    }

    /** "IllegalArgumentException when n is not 1 .. 8". */
    private static void numberOfBytes() {
        for (int n = -2; n <= 10; n++) {
            int count = n;
            FramedTalk asked = new FramedTalk();
            FramedTalk open = OtherEnd.open();
            FramedTalk closing = OtherEnd.open();
            closing.close(1000);
            for (FramedTalk x : new FramedTalk[] {asked, open, closing}) {
                if (n >= 1 && n <= 8) {
                    OtherEnd.due("feed of " + n, x.feed(0x8A8A04030201808AL, n), 0);
                } else {
                    Edge.argument("feed of " + n, x, () -> x.feed(0x8A8A04030201808AL, count));
                }
            }
            OtherEnd.due("pongs behind feed of " + n, open.pongs(), n >= 6 && n <= 8 ? 1 : 0);
        }
        FramedTalk x = OtherEnd.open();
        for (int n : new int[] {Integer.MIN_VALUE, Integer.MIN_VALUE + 1, -8, 16, 257, Integer.MAX_VALUE}) {
            Edge.argument("feed of " + n, x, () -> x.feed(-1, n));
        }
    }

    /** "where several exceptions that a call names fit, it is the one that it names first". */
    private static void numberOfBytesWhenClosed() {
        for (int n = -1; n <= 10; n++) {
            int count = n;
            FramedTalk x = new FramedTalk();
            OtherEnd.feed(x, OtherEnd.signs("\r\n\r\n"));
            if (n >= 1 && n <= 8) {
                Edge.state("feed of " + n + " when CLOSED", x, () -> x.feed(0, count));
            } else {
                Edge.argument("feed of " + n + " when CLOSED", x, () -> x.feed(0, count));
            }
        }
    }

    /** "IllegalStateException when the state is CLOSED": in whichever way it came there, and in no other state. */
    private static void closedInEachWay() {
        for (FramedTalk x : Edge.notOpen()) {
            if (x.state() == OtherEnd.CLOSED) {
                Edge.state("feed when CLOSED", x, () -> x.feed('G', 1));
                Edge.state("feed of eight when CLOSED", x, () -> x.feed(-1, 8));
            } else {
                OtherEnd.due("feed when not CLOSED", x.feed(129, 1), 0);
            }
        }
    }

    /** "A call that throws, or is refused, changes nothing": the frame goes on as if it had not been. */
    private static void refusedFeedReadsNothing() {
        byte[] row = OtherEnd.frame(129, OtherEnd.utf8("\u20ac"));
        FramedTalk x = OtherEnd.open();
        for (int i = 0; i < row.length; i++) {
            Edge.argument("feed of 0 before byte " + i, x, () -> x.feed(-1, 0));
            Edge.argument("feed of 9 before byte " + i, x, () -> x.feed(-1, 9));
            OtherEnd.due("feed of byte " + i, x.feed(row[i], 1), i == row.length - 1 ? 1 : 0);
        }
        OtherEnd.due("the message", OtherEnd.message(x, 0), OtherEnd.asSigns(226, 130, 172));
    }

    /** "n bytes come in, the lowest one of w first"; those above the n are for nothing. */
    private static void lowestByteFirst() {
        int[] row = {0, 1, 127, 128, 129, 254, 255, 200};
        long w = OtherEnd.word(OtherEnd.bytes(row), 0, 8);
        for (int n = 1; n <= 8; n++) {
            FramedTalk x = OtherEnd.open();
            OtherEnd.feed(x, OtherEnd.head(130, 2 * n), new byte[4]);
            OtherEnd.due("feed of " + n, x.feed(w, n), 0);
            OtherEnd.due("feed of " + n + " more", x.feed(~w, n), 1);
            for (int i = 0; i < n; i++) {
                OtherEnd.due("byte " + i + " of " + n, x.byteAt(0, i), row[i]);
                OtherEnd.due("byte " + i + " of " + n + " more", x.byteAt(0, n + i), 255 - row[i]);
            }
        }
    }

    /** "BYTES are 0 .. 255", in a message and in OUT. */
    private static void everyByte() {
        for (int b = 0; b < 256; b++) {
            FramedTalk x = OtherEnd.open();
            OtherEnd.feed(x, OtherEnd.frame(130, OtherEnd.bytes(b)), OtherEnd.frame(137, OtherEnd.bytes(b)));
            OtherEnd.due("byte " + b + " of a message", x.byteAt(0, 0), b);
            OtherEnd.due("byte " + b + " of a PONG", x.outAt(2), b);
            x.write(b, 1);
            x.ping();
            OtherEnd.due("byte " + b + " of the draft", x.outAt(5), b);
        }
    }

    /** "those that come when the state is CLOSED (by one before) are lost": by a byte at each place of eight. */
    private static void lostBytes() {
        for (int place = 0; place < 8; place++) {
            byte[] row = OtherEnd.join(new byte[place], OtherEnd.many(255, 8 - place));
            FramedTalk x = OtherEnd.open();
            OtherEnd.feed(x, OtherEnd.head(130, place), new byte[4]);
            OtherEnd.due("feed", x.feed(OtherEnd.word(row, 0, 8), 8), place > 0 ? 1 : 0);
            OtherEnd.dueEnd("a wrong byte at place " + place, x, 1002);
            OtherEnd.due("delivered", x.delivered(), 1);
        }
        FramedTalk x = new FramedTalk();
        OtherEnd.due("a bad request and more", x.feed(0x818A0A0D0A0D0A0DL, 8), 0);
        Asker.dueAnswer("a bad request and more", x, Asker.BAD, OtherEnd.CLOSED);
    }

    /** "one after the other, and each does what it does": a request's last bytes and a frame's first ones. */
    private static void requestAndFrameInOneCall() {
        byte[] row = OtherEnd.join(OtherEnd.signs(OtherEnd.goodRequest(OtherEnd.KEY)), EMPTY_TEXT, EMPTY_TEXT);
        int request = row.length - 12;
        for (int before = request - 7; before <= request; before++) {
            FramedTalk x = new FramedTalk();
            OtherEnd.feed(x, Arrays.copyOf(row, before));
            OtherEnd.due("state", x.state(), before == request ? OtherEnd.OPEN : OtherEnd.ASKED);
            int due = before + 8 >= request + 6 ? 1 : 0;
            OtherEnd.due("feed of eight", x.feed(OtherEnd.word(row, before, 8), 8), due);
            OtherEnd.due("state behind it", x.state(), OtherEnd.OPEN);
            OtherEnd.feed(x, Arrays.copyOfRange(row, before + 8, row.length));
            OtherEnd.due("delivered", x.delivered(), 2);
        }
    }

    /** "0 ASKED (at first), 1 OPEN, 2 CLOSING, 3 CLOSED". */
    private static void everyState() {
        FramedTalk x = new FramedTalk();
        OtherEnd.due("at first", x.state(), 0);
        OtherEnd.feed(x, OtherEnd.signs(OtherEnd.goodRequest(OtherEnd.KEY)));
        OtherEnd.due("behind a good request", x.state(), 1);
        x.close(1000);
        OtherEnd.due("behind close", x.state(), 2);
        OtherEnd.feed(x, OtherEnd.frame(136, new byte[0]));
        OtherEnd.due("behind a CLOSE", x.state(), 3);
    }

    /** What one object does, another does not see. */
    private static void objectsOnTheirOwn() {
        FramedTalk x = OtherEnd.open();
        FramedTalk y = OtherEnd.open();
        String before = Edge.picture(y);
        OtherEnd.write(x, OtherEnd.signs("x"));
        x.send(1, 0);
        OtherEnd.feed(x, OtherEnd.frame(129, OtherEnd.signs("a")), EMPTY_PONG, OtherEnd.frame(1, OtherEnd.bytes(226)));
        x.close(1000);
        OtherEnd.due("the other one", Edge.picture(y), before);
        OtherEnd.due("a message of the other one", OtherEnd.feed(y, EMPTY_TEXT), 1);
        Edge.dueDraft("of the other one", y, new byte[0]);
    }

    /** How many calls openCounted makes: the request in pieces of eight, and one drop. */
    private static int openingCalls() {
        return (OtherEnd.goodRequest(OtherEnd.KEY).length() + 7) / 8 + 1;
    }

    private static FramedTalk openCounted() {
        FramedTalk x = new FramedTalk();
        byte[] row = OtherEnd.signs(OtherEnd.goodRequest(OtherEnd.KEY));
        for (int from = 0; from < row.length; from += 8) {
            int n = Math.min(8, row.length - from);
            x.feed(OtherEnd.word(row, from, n), n);
        }
        x.drop(129);
        return x;
    }

    /** Feeds the same frame over and over, eight bytes a call; answers how many were whole. */
    private static int feedOver(FramedTalk x, byte[] frame, int calls) {
        byte[] four = OtherEnd.join(frame, frame, frame, frame);
        for (int c = 0; c < calls; c++) {
            x.feed(OtherEnd.word(four, c * 8 % 24, 8), 8);
        }
        return calls * 8 / 6;
    }

    /** "An object is used for at most 512 calls": the 512th answers as is due, however much came before. */
    private static void manyMessagesIn512Calls() {
        FramedTalk x = openCounted();
        int whole = feedOver(x, EMPTY_TEXT, CALLS - openingCalls() - 3);
        OtherEnd.due("messages, the 510th call", x.messages(), 4);
        OtherEnd.due("state, the 511th call", x.state(), OtherEnd.OPEN);
        OtherEnd.due("delivered, the 512th call", x.delivered(), whole);
    }

    /** The same for PONGs. */
    private static void manyPongsIn512Calls() {
        FramedTalk x = openCounted();
        int whole = feedOver(x, EMPTY_PONG, CALLS - openingCalls() - 2);
        OtherEnd.due("state, the 511th call", x.state(), OtherEnd.OPEN);
        OtherEnd.due("pongs, the 512th call", x.pongs(), whole);
    }

    /** The same for PINGs, of which only 235 can be answered when nothing is taken out. */
    private static void manyPingsIn512Calls() {
        FramedTalk x = openCounted();
        feedOver(x, EMPTY_PING, CALLS - openingCalls() - 3);
        OtherEnd.due("outLength, the 510th call", x.outLength(), 470);
        OtherEnd.due("outAt(469), the 511th call", x.outAt(469), 0);
        OtherEnd.due("outAt(468), the 512th call", x.outAt(468), 138);
    }

    /** The same for what is said and taken out again. */
    private static void manyDraftsIn512Calls() {
        FramedTalk x = openCounted();
        int calls = openingCalls();
        for (int c = 0; c < 12; c++) {
            x.write(0x6161616161616161L, 8);
        }
        x.write(0x61616161, 4);
        calls += 13;
        while (calls + 4 <= CALLS) {
            x.send(1, 1);
            x.drop(300);
            calls += 2;
        }
        spend(x, CALLS - 2 - calls);
        OtherEnd.due("outLength, the 511th call", x.outLength(), 0);
        OtherEnd.due("send, the 512th call", x.send(2, 0), 1);
    }

    private static void spend(FramedTalk x, int calls) {
        for (int c = 0; c < calls; c++) {
            x.state();
        }
    }

    /** The same for messages that are taken at once. */
    private static void manyTakesIn512Calls() {
        FramedTalk x = openCounted();
        int calls = openingCalls();
        int whole = 0;
        while (calls + 4 <= CALLS) {
            OtherEnd.due("feed", x.feed(OtherEnd.word(EMPTY_TEXT, 0, 6), 6), 1);
            OtherEnd.due("take", x.take(), 0);
            calls += 2;
            whole++;
        }
        spend(x, CALLS - 2 - calls);
        OtherEnd.due("messages, the 511th call", x.messages(), 0);
        OtherEnd.due("delivered, the 512th call", x.delivered(), whole);
    }
}
