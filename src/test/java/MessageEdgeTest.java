import java.util.Arrays;

/** The edges of messages that wait, and of PONGs; over each test stand the document's words that it is for. */
public final class MessageEdgeTest {
    private static final int[] FAR_OFF = {Integer.MIN_VALUE, Integer.MIN_VALUE + 1, -300, -4, -1, 300, 301, 1200,
        Integer.MAX_VALUE};

    public static void main(String[] args) {
        atFirstNone();
        atMostFour();
        lostOnesLeaveTheOthers();
        fourthAndFifthInOneCall();
        roomAgainBehindTake();
        kindEdges();
        lengthEdges();
        byteAtEdges();
        byteAtWithoutAMessage();
        bytesOf300();
        takeEdges();
        takeGoesRound();
        underWayIsNotThere();
        deliveredInEachState();
        twoInOneCall();
        stayWhenClosed();
        pongsCount();
        OtherEnd.end();
    }

    private static byte[] text(String content) {
        return OtherEnd.frame(129, OtherEnd.signs(content));
    }

    /** An open talk with so many messages, of the lengths 1, 2, 3, ... and the kinds 1, 2, 1, ... */
    private static FramedTalk waiting(int count) {
        FramedTalk x = OtherEnd.open();
        for (int m = 0; m < count; m++) {
            deliver(x, m);
        }
        return x;
    }

    private static void deliver(FramedTalk x, int m) {
        byte[] row = OtherEnd.frame(129 + m % 2, OtherEnd.many('a' + m, 1 + m));
        OtherEnd.due("feed of message " + m, OtherEnd.feed(x, row), 1);
    }

    private static void dueMessage(FramedTalk x, int k, int m) {
        OtherEnd.due("kind(" + k + ")", x.kind(k), 1 + m % 2);
        OtherEnd.due("length(" + k + ")", x.length(k), 1 + m);
        OtherEnd.due("message " + k, OtherEnd.message(x, k), String.valueOf((char) ('a' + m)).repeat(1 + m));
    }

    /** "no messages". */
    private static void atFirstNone() {
        for (FramedTalk x : new FramedTalk[] {new FramedTalk(), OtherEnd.open()}) {
            OtherEnd.due("messages at first", x.messages(), 0);
            OtherEnd.due("delivered at first", x.delivered(), 0);
            Edge.element("kind(0) at first", x, () -> x.kind(0));
            Edge.element("length(0) at first", x, () -> x.length(0));
            Edge.element("byteAt(0, 0) at first", x, () -> x.byteAt(0, 0));
            Edge.element("take at first", x, () -> x.take());
        }
    }

    /** "DELIVERED messages wait, at most four; one that comes when four wait is LOST": three, four, five, six. */
    private static void atMostFour() {
        for (int count = 0; count <= 7; count++) {
            FramedTalk x = waiting(count);
            OtherEnd.due("messages of " + count, x.messages(), Math.min(count, 4));
            OtherEnd.due("delivered of " + count + ", lost ones too", x.delivered(), count);
            OtherEnd.due("state of " + count, x.state(), OtherEnd.OPEN);
        }
    }

    /** A lost one changes none of those that wait, and does not come later. */
    private static void lostOnesLeaveTheOthers() {
        FramedTalk x = waiting(6);
        for (int k = 0; k < 4; k++) {
            dueMessage(x, k, k);
        }
        for (int m = 0; m < 4; m++) {
            OtherEnd.due("take", x.take(), 1 + m);
        }
        Edge.element("take of a lost one", x, () -> x.take());
        OtherEnd.due("delivered at last", x.delivered(), 6);
    }

    /** The same when the fourth and the fifth come in one call. */
    private static void fourthAndFifthInOneCall() {
        FramedTalk x = waiting(3);
        byte[] two = OtherEnd.join(OtherEnd.bytes(130, 128, 0, 0, 0, 0), OtherEnd.bytes(129, 128, 0, 0, 0, 0));
        OtherEnd.due("the first five bytes", x.feed(OtherEnd.word(two, 0, 5), 5), 0);
        OtherEnd.due("the fourth and the fifth", x.feed(OtherEnd.word(two, 5, 7), 7), 2);
        OtherEnd.due("messages", x.messages(), 4);
        OtherEnd.due("delivered", x.delivered(), 5);
        OtherEnd.due("kind(3)", x.kind(3), 2);
        Edge.element("kind(4)", x, () -> x.kind(4));
    }

    /** When one of four has been taken, one more can wait, and not two. */
    private static void roomAgainBehindTake() {
        FramedTalk x = waiting(5);
        OtherEnd.due("take", x.take(), 1);
        OtherEnd.due("messages behind take", x.messages(), 3);
        deliver(x, 5);
        OtherEnd.due("messages", x.messages(), 4);
        deliver(x, 6);
        OtherEnd.due("messages, one more lost", x.messages(), 4);
        OtherEnd.due("delivered", x.delivered(), 7);
        int[] left = {1, 2, 3, 5};
        for (int k = 0; k < 4; k++) {
            dueMessage(x, k, left[k]);
        }
    }

    private interface Look {
        int at(FramedTalk x, int k);
    }

    private static void elementEdges(String what, Look look) {
        for (int count = 0; count <= 5; count++) {
            FramedTalk x = waiting(count);
            int there = Math.min(count, 4);
            for (int k = 0; k < there; k++) {
                String before = Edge.picture(x);
                look.at(x, k);
                OtherEnd.due("seen behind " + what, Edge.picture(x), before);
            }
            Edge.element(what + "(" + there + ") of " + count, x, () -> look.at(x, there));
            Edge.element(what + "(-1) of " + count, x, () -> look.at(x, -1));
        }
        FramedTalk x = waiting(2);
        for (int k : FAR_OFF) {
            Edge.element(what + "(" + k + ")", x, () -> look.at(x, k));
        }
        x.take();
        Edge.element(what + "(1) behind take", x, () -> look.at(x, 1));
        look.at(x, 0);
        x.take();
        Edge.element(what + "(0) behind take", x, () -> look.at(x, 0));
    }

    /** kind: "NoSuchElementException when there is none". */
    private static void kindEdges() {
        elementEdges("kind", (x, k) -> x.kind(k));
    }

    /** length: "NoSuchElementException when there is none". */
    private static void lengthEdges() {
        elementEdges("length", (x, k) -> x.length(k));
    }

    /** byteAt: "NoSuchElementException when there is no message k; IndexOutOfBoundsException when it has no byte i". */
    private static void byteAtEdges() {
        elementEdges("byteAt", (x, k) -> x.byteAt(k, 0));
        for (int length : new int[] {0, 1, 2, 299, 300}) {
            FramedTalk x = OtherEnd.open();
            OtherEnd.feed(x, OtherEnd.frame(130, OtherEnd.many(200, length)), text("behind"));
            Edge.index("byteAt(0, -1) of " + length, x, () -> x.byteAt(0, -1));
            Edge.index("byteAt(0, " + length + ")", x, () -> x.byteAt(0, length));
            if (length > 0) {
                OtherEnd.due("byteAt(0, 0) of " + length, x.byteAt(0, 0), 200);
                OtherEnd.due("the last of " + length, x.byteAt(0, length - 1), 200);
            }
        }
        FramedTalk x = waiting(2);
        for (int i : FAR_OFF) {
            Edge.index("byteAt(1, " + i + ")", x, () -> x.byteAt(1, i));
        }
    }

    /** "it is the one that it names first": without a message k, whatever i is. */
    private static void byteAtWithoutAMessage() {
        FramedTalk x = waiting(1);
        for (int k : new int[] {-1, 1}) {
            for (int i : FAR_OFF) {
                Edge.element("byteAt(" + k + ", " + i + ")", x, () -> x.byteAt(k, i));
            }
        }
    }

    /** Four of the longest have room beside one another. */
    private static void bytesOf300() {
        FramedTalk x = OtherEnd.open();
        for (int m = 0; m < 5; m++) {
            byte[] row = OtherEnd.many(10 * m, 300);
            row[0] = (byte) (128 + m);
            row[299] = (byte) (255 - m);
            OtherEnd.feed(x, OtherEnd.frame(130, row));
        }
        for (int k = 0; k < 4; k++) {
            int one = k;
            OtherEnd.due("length(" + k + ")", x.length(k), 300);
            OtherEnd.due("the first of " + k, x.byteAt(k, 0), 128 + k);
            OtherEnd.due("the second of " + k, x.byteAt(k, 1), 10 * k);
            OtherEnd.due("the last but one of " + k, x.byteAt(k, 298), 10 * k);
            OtherEnd.due("the last of " + k, x.byteAt(k, 299), 255 - k);
            OtherEnd.dueIndex("behind the last of " + k, () -> x.byteAt(one, 300));
        }
    }

    /** take: "The oldest message waits no more: its length. NoSuchElementException when there is none". */
    private static void takeEdges() {
        for (int count = 0; count <= 4; count++) {
            FramedTalk x = waiting(count);
            for (int m = 0; m < count; m++) {
                OtherEnd.due("take " + m + " of " + count, x.take(), 1 + m);
                OtherEnd.due("messages behind it", x.messages(), count - m - 1);
                OtherEnd.due("delivered behind it", x.delivered(), count);
            }
            Edge.element("take behind " + count, x, () -> x.take());
            deliver(x, 9);
            OtherEnd.due("take of a new one", x.take(), 10);
        }
        FramedTalk empty = OtherEnd.open();
        OtherEnd.feed(empty, text(""));
        OtherEnd.due("take of one without bytes", empty.take(), 0);
        Edge.element("take behind it", empty, () -> empty.take());
    }

    /** Wherever the oldest one stands, up to four stand behind it in their order. */
    private static void takeGoesRound() {
        for (int taken = 0; taken <= 9; taken++) {
            FramedTalk x = OtherEnd.open();
            for (int m = 0; m < taken; m++) {
                deliver(x, m);
                OtherEnd.due("take at once", x.take(), 1 + m);
            }
            for (int m = 0; m < 5; m++) {
                deliver(x, m + 1);
            }
            for (int k = 0; k < 4; k++) {
                dueMessage(x, k, k + 1);
            }
            Edge.element("kind(4) behind " + taken, x, () -> x.kind(4));
        }
    }

    /** "it is UNDER WAY in between": one that is not delivered is not there. */
    private static void underWayIsNotThere() {
        FramedTalk x = OtherEnd.open();
        OtherEnd.feed(x, OtherEnd.frame(1, OtherEnd.signs("ab")), OtherEnd.frame(0, OtherEnd.signs("c")));
        OtherEnd.due("messages under way", x.messages(), 0);
        Edge.element("kind(0) under way", x, () -> x.kind(0));
        Edge.element("take under way", x, () -> x.take());
        OtherEnd.feed(x, OtherEnd.frame(128, new byte[0]));
        OtherEnd.due("the message", OtherEnd.message(x, 0), "abc");
        OtherEnd.feed(x, OtherEnd.frame(2, OtherEnd.signs("d")), OtherEnd.frame(136, new byte[0]));
        OtherEnd.due("state", x.state(), OtherEnd.CLOSED);
        OtherEnd.due("messages when one was under way at the end", x.messages(), 1);
        OtherEnd.due("delivered then", x.delivered(), 1);
    }

    /** Messages are delivered, and lost, in state CLOSING as in OPEN. */
    private static void deliveredInEachState() {
        FramedTalk x = waiting(3);
        x.close(1000);
        deliver(x, 3);
        OtherEnd.due("messages when CLOSING", x.messages(), 4);
        deliver(x, 4);
        OtherEnd.due("messages when CLOSING, one lost", x.messages(), 4);
        OtherEnd.due("delivered when CLOSING", x.delivered(), 5);
        dueMessage(x, 3, 3);
    }

    /** "Answers how many messages were delivered (lost ones, too)": none, one, two. */
    private static void twoInOneCall() {
        byte[] row = OtherEnd.bytes(129, 128, 0, 0, 0, 0, 129, 128, 0, 0, 0, 0, 129, 128, 0, 0, 0, 0);
        for (int from = 0; from <= 10; from++) {
            for (int before : new int[] {0, 4}) {
                FramedTalk x = waiting(before);
                if (from > 0) {
                    OtherEnd.feed(x, Arrays.copyOf(row, from));
                }
                int due = (from + 8) / 6 - from / 6;
                OtherEnd.due("feed of eight from " + from, x.feed(OtherEnd.word(row, from, 8), 8), due);
                OtherEnd.due("delivered up to " + (from + 8), x.delivered(), before + (from + 8) / 6);
            }
        }
        FramedTalk x = OtherEnd.open();
        OtherEnd.due("one, and the end of the talk", x.feed(0xFF000000008081L, 7), 1);
        OtherEnd.due("state", x.state(), OtherEnd.CLOSED);
        OtherEnd.due("messages", x.messages(), 1);
    }

    /** Messages that wait can be looked at and taken when the state is CLOSED. */
    private static void stayWhenClosed() {
        FramedTalk x = waiting(4);
        x.feed(255, 1);
        OtherEnd.due("state", x.state(), OtherEnd.CLOSED);
        for (int k = 0; k < 4; k++) {
            dueMessage(x, k, k);
        }
        for (int m = 0; m < 4; m++) {
            OtherEnd.due("take when CLOSED", x.take(), 1 + m);
        }
        Edge.element("take of none when CLOSED", x, () -> x.take());
    }

    /** "A PONG counts"; "How many PONGs came in": in state CLOSING too, and none when CLOSED. */
    private static void pongsCount() {
        FramedTalk x = OtherEnd.open();
        byte[] pong = OtherEnd.frame(138, OtherEnd.signs("p"));
        OtherEnd.due("pongs at first", x.pongs(), 0);
        for (int count = 1; count <= 3; count++) {
            OtherEnd.feed(x, Arrays.copyOf(pong, pong.length - 1));
            OtherEnd.due("pongs before the last byte", x.pongs(), count - 1);
            x.feed(pong[pong.length - 1], 1);
            OtherEnd.due("pongs", x.pongs(), count);
        }
        OtherEnd.feed(x, OtherEnd.frame(137, OtherEnd.signs("p")));
        OtherEnd.due("pongs behind a PING", x.pongs(), 3);
        x.ping();
        OtherEnd.due("pongs behind ping", x.pongs(), 3);
        x.close(1000);
        OtherEnd.feed(x, pong);
        OtherEnd.due("pongs when CLOSING", x.pongs(), 4);
        OtherEnd.feed(x, OtherEnd.frame(136, new byte[0]), pong);
        OtherEnd.due("pongs when CLOSED", x.pongs(), 4);
    }
}
