import java.util.Arrays;

/** The edges of frames that come in; over each test stand the document's words that it is for. */
public final class FrameEdgeTest {
    private static final int[] SHORT_ONES = {OtherEnd.CLOSE, OtherEnd.PING, OtherEnd.PONG};
    private static final byte[] NONE = {};

    public static void main(String[] args) {
        aFlagIsThere();
        theKindIsAnotherOne();
        aShortOneIsNotLast();
        aMoreWithoutAMessage();
        aBeginningWhileOneIsUnderWay();
        shortOnesBetween();
        notMasked();
        aShortOneAbove125();
        contentOfAShortOne();
        lengthInTheSecondByte();
        lengthInTwoBytes();
        lengthInEightBytes();
        highestBitOfEightBytes();
        everyBitOfEightBytes();
        contentAbove300InOneFrame();
        contentAbove300WithMores();
        contentCountsAnewInEachMessage();
        shortContentDoesNotCount();
        wrongLengthBeforeTooLong();
        maskComesRound();
        maskOfEachFrame();
        emptyContentIsWholeAtTheMask();
        deliveredAtTheLastByte();
        whenItViolates();
        whenOutIsFull();
        OtherEnd.end();
    }

    private static byte[] begun(int kind) {
        return OtherEnd.frame(kind, OtherEnd.signs("b"));
    }

    /** "a flag is there": each of the three alone, all together, and none. */
    private static void aFlagIsThere() {
        for (int kind : new int[] {OtherEnd.TEXT, OtherEnd.BYTES, OtherEnd.CLOSE, OtherEnd.PING, OtherEnd.PONG}) {
            Edge.stands("no flag, kind " + kind, OtherEnd.bytes(OtherEnd.LAST + kind));
            for (int flags = 16; flags <= 112; flags += 16) {
                Edge.violates("flags " + flags + ", kind " + kind, 1002, OtherEnd.bytes(OtherEnd.LAST + flags + kind));
            }
        }
        for (int flags = 16; flags <= 112; flags += 16) {
            Edge.violates("flags " + flags + ", MORE", 1002, begun(OtherEnd.TEXT), OtherEnd.bytes(flags));
        }
        Edge.stands("no flag, MORE", begun(OtherEnd.TEXT), OtherEnd.bytes(OtherEnd.MORE));
    }

    /** "the kind is another one": 3 .. 7 and 11 .. 15, be it last or not, be a message under way or not. */
    private static void theKindIsAnotherOne() {
        for (int kind = 0; kind <= 15; kind++) {
            boolean isOther = kind >= 3 && kind <= 7 || kind >= 11;
            for (int last : new int[] {0, OtherEnd.LAST}) {
                if (isOther) {
                    Edge.violates("kind " + kind, 1002, OtherEnd.bytes(last + kind));
                    Edge.violates("kind " + kind + " under way", 1002, begun(OtherEnd.BYTES), OtherEnd.bytes(last + kind));
                }
            }
            if (kind == OtherEnd.MORE) {
                Edge.stands("kind " + kind, begun(OtherEnd.BYTES), OtherEnd.bytes(OtherEnd.LAST + kind));
            } else if (!isOther) {
                Edge.stands("kind " + kind, OtherEnd.bytes(OtherEnd.LAST + kind));
            }
        }
    }

    /** "a short one is not last". */
    private static void aShortOneIsNotLast() {
        for (int kind : SHORT_ONES) {
            Edge.violates("not last: " + kind, 1002, OtherEnd.bytes(kind));
            Edge.violates("not last, under way: " + kind, 1002, begun(OtherEnd.TEXT), OtherEnd.bytes(kind));
            Edge.stands("last: " + kind, OtherEnd.bytes(OtherEnd.LAST + kind));
            Edge.stands("last, under way: " + kind, begun(OtherEnd.TEXT), OtherEnd.bytes(OtherEnd.LAST + kind));
        }
    }

    /** "a MORE comes without a message under way": before any, behind a whole one, behind a last MORE. */
    private static void aMoreWithoutAMessage() {
        byte[] one = OtherEnd.frame(129, OtherEnd.signs("a"));
        byte[] lastMore = OtherEnd.frame(128, OtherEnd.signs("c"));
        for (int more : new int[] {OtherEnd.MORE, OtherEnd.LAST + OtherEnd.MORE}) {
            byte[] row = OtherEnd.bytes(more);
            Edge.violates("MORE at first", 1002, row);
            Edge.violates("MORE behind a whole one", 1002, one, row);
            Edge.violates("MORE behind an empty one", 1002, OtherEnd.frame(130, NONE), row);
            Edge.violates("MORE behind a last MORE", 1002, begun(OtherEnd.TEXT), lastMore, row);
            Edge.violates("MORE behind an empty last MORE", 1002, begun(2), OtherEnd.frame(128, NONE), row);
            Edge.violates("MORE behind a PING", 1002, OtherEnd.frame(137, NONE), row);
            Edge.stands("MORE under way", begun(OtherEnd.TEXT), row);
            Edge.stands("MORE behind an empty beginning", OtherEnd.frame(OtherEnd.TEXT, NONE), row);
            Edge.stands("MORE behind MORE", begun(OtherEnd.TEXT), begun(OtherEnd.MORE), row);
        }
    }

    /** "or a TEXT or BYTES while one is": behind the first frame, behind a MORE, behind a short one. */
    private static void aBeginningWhileOneIsUnderWay() {
        byte[] lastMore = OtherEnd.frame(128, NONE);
        for (int first : new int[] {1, 2, 129, 130}) {
            byte[] row = OtherEnd.bytes(first);
            for (int kind : new int[] {OtherEnd.TEXT, OtherEnd.BYTES}) {
                Edge.violates(first + " under way", 1002, begun(kind), row);
                Edge.violates(first + " behind an empty beginning", 1002, OtherEnd.frame(kind, NONE), row);
                Edge.violates(first + " behind a MORE", 1002, begun(kind), begun(OtherEnd.MORE), row);
                Edge.violates(first + " behind a PONG", 1002, begun(kind), OtherEnd.frame(138, NONE), row);
                Edge.stands(first + " behind the last", begun(kind), lastMore, row);
                Edge.stands(first + " behind one that is last", OtherEnd.frame(OtherEnd.LAST + kind, NONE), row);
            }
        }
    }

    /** "Short ones may come between its frames": none, one or three, and the message is as without them. */
    private static void shortOnesBetween() {
        byte[][] between = {NONE, OtherEnd.frame(137, OtherEnd.bytes(255)),
            OtherEnd.join(OtherEnd.frame(138, OtherEnd.bytes(1, 2)), OtherEnd.frame(137, NONE), OtherEnd.frame(138, NONE))};
        for (byte[] row : between) {
            FramedTalk x = OtherEnd.open();
            OtherEnd.due("delivered", OtherEnd.feed(x, row, OtherEnd.frame(1, OtherEnd.bytes(195)), row,
                OtherEnd.frame(0, NONE), row, OtherEnd.frame(128, OtherEnd.bytes(169, 'x')), row), 1);
            OtherEnd.due("the message", OtherEnd.message(x, 0), OtherEnd.asSigns(195, 169, 'x'));
            OtherEnd.due("state", x.state(), OtherEnd.OPEN);
        }
    }

    /** "The second byte: it is not masked": 127 and 128 are the edge. */
    private static void notMasked() {
        for (int first : new int[] {1, 130, 136, 137, 138}) {
            for (int second : new int[] {0, 1, 125, 126, 127}) {
                Edge.violates(first + " with " + second, 1002, OtherEnd.bytes(first, second));
            }
            Edge.stands(first + " with 128", OtherEnd.bytes(first, 128));
        }
        Edge.violates("a MORE that is not masked", 1002, begun(OtherEnd.TEXT), OtherEnd.bytes(128, 127));
        Edge.stands("a MORE that is masked", begun(OtherEnd.TEXT), OtherEnd.bytes(128, 128));
    }

    /** "or it is a short one and the number in it is above 125: 1002", found at the second byte. */
    private static void aShortOneAbove125() {
        for (int kind : SHORT_ONES) {
            int first = OtherEnd.LAST + kind;
            Edge.stands(kind + " of 124", OtherEnd.bytes(first, 128 + 124));
            Edge.stands(kind + " of 125", OtherEnd.bytes(first, 128 + 125));
            Edge.violates(kind + " of 126", 1002, OtherEnd.bytes(first, 128 + 126));
            Edge.violates(kind + " of 127", 1002, OtherEnd.bytes(first, 128 + 127));
        }
        for (int first : new int[] {1, 2, 129, 130}) {
            Edge.stands(first + " of 126", OtherEnd.bytes(first, 128 + 126));
            Edge.stands(first + " of 127", OtherEnd.bytes(first, 128 + 127));
        }
    }

    /** The contents of short ones up to 125 bytes, whole at their last byte. */
    private static void contentOfAShortOne() {
        for (int size : new int[] {0, 1, 3, 4, 5, 124, 125}) {
            byte[] content = OtherEnd.many('s', size);
            FramedTalk x = Edge.stands("a PING of " + size, OtherEnd.frame(137, content));
            OtherEnd.due("its PONG", OtherEnd.out(x), OtherEnd.asSigns(OtherEnd.join(OtherEnd.bytes(138, size), content)));
            FramedTalk y = Edge.stands("a PONG of " + size, OtherEnd.frame(138, content));
            OtherEnd.due("pongs behind a PONG of " + size, y.pongs(), 1);
            byte[] row = OtherEnd.frame(138, content);
            FramedTalk z = Edge.stands("nearly a PONG of " + size, Arrays.copyOf(row, row.length - 1));
            OtherEnd.due("pongs before the last byte of " + size, z.pongs(), 0);
        }
    }

    private static void dueDelivered(String what, byte[] row, int length) {
        FramedTalk x = OtherEnd.open();
        OtherEnd.due(what + ": before the last byte", OtherEnd.feed(x, Arrays.copyOf(row, row.length - 1)), 0);
        OtherEnd.due(what + ": messages before", x.messages(), 0);
        OtherEnd.due(what + ": at the last byte", x.feed(row[row.length - 1], 1), 1);
        OtherEnd.due(what + ": length", x.length(0), length);
        OtherEnd.due(what + ": state", x.state(), OtherEnd.OPEN);
    }

    /** "plus its LENGTH if this is below 126". */
    private static void lengthInTheSecondByte() {
        for (int length : new int[] {0, 1, 2, 124, 125}) {
            dueDelivered("one byte of " + length, OtherEnd.frame(129, OtherEnd.many('l', length)), length);
        }
    }

    /** "in two bytes it is below 126": 1002. */
    private static void lengthInTwoBytes() {
        for (int first : new int[] {1, 2, 129, 130}) {
            for (int length : new int[] {0, 1, 124, 125}) {
                Edge.violates("two bytes of " + length, 1002, OtherEnd.bytes(first, 254, 0, length));
            }
            for (int length : new int[] {126, 127, 255, 256, 299, 300}) {
                Edge.stands("two bytes of " + length, OtherEnd.bytes(first, 254, length >> 8, length));
            }
            for (int length : new int[] {301, 511, 512, 32767, 32768, 65534, 65535}) {
                Edge.violates("two bytes of " + length, 1009, OtherEnd.bytes(first, 254, length >> 8, length));
            }
        }
        for (int length : new int[] {126, 127, 255, 256, 257, 299, 300}) {
            dueDelivered("two bytes of " + length, OtherEnd.frame(130, OtherEnd.many(200, length)), length);
        }
    }

    /** "in eight bytes below 65536": 1002, found at the eighth of them. */
    private static void lengthInEightBytes() {
        for (int first : new int[] {1, 2, 129, 130}) {
            for (long length : new long[] {0, 1, 125, 126, 127, 255, 256, 299, 300, 301, 65534, 65535}) {
                Edge.violates("eight bytes of " + length, 1002, OtherEnd.longHead(first, length));
            }
            for (long length : new long[] {65536, 65537, 65536 + 126, 65536 + 300, 1L << 31, 1L << 32, (1L << 32) + 300}) {
                Edge.violates("eight bytes of " + length, 1009, OtherEnd.longHead(first, length));
            }
        }
    }

    /** "or the highest bit is 1: 1002". */
    private static void highestBitOfEightBytes() {
        for (int first : new int[] {1, 2, 129, 130}) {
            for (long length : new long[] {Long.MAX_VALUE - 1, Long.MAX_VALUE}) {
                Edge.violates("eight bytes of " + length, 1009, OtherEnd.longHead(first, length));
            }
            for (long length : new long[] {Long.MIN_VALUE, Long.MIN_VALUE + 1, Long.MIN_VALUE + 126,
                Long.MIN_VALUE + 300, Long.MIN_VALUE + 65535, Long.MIN_VALUE + 65536, -65536, -1}) {
                Edge.violates("eight bytes of " + length, 1002, OtherEnd.longHead(first, length));
            }
        }
    }

    /** "the highest first": each bit alone stands where it is due. */
    private static void everyBitOfEightBytes() {
        for (int bit = 0; bit < 64; bit++) {
            int code = bit < 16 || bit == 63 ? 1002 : 1009;
            Edge.violates("bit " + bit + " of eight bytes", code, OtherEnd.longHead(129, 1L << bit));
        }
        for (int bit = 0; bit < 16; bit++) {
            int length = 1 << bit;
            byte[] head = OtherEnd.bytes(129, 254, length >> 8, length);
            if (bit == 7 || bit == 8) {
                Edge.stands("bit " + bit + " of two bytes", head);
            } else {
                Edge.violates("bit " + bit + " of two bytes", bit < 7 ? 1002 : 1009, head);
            }
        }
    }

    /** "the message's content would be above 300 bytes with it: 1009", in one frame. */
    private static void contentAbove300InOneFrame() {
        for (int first : new int[] {129, 130}) {
            for (int length : new int[] {299, 300}) {
                dueDelivered("one of " + length, OtherEnd.frame(first, OtherEnd.many('c', length)), length);
            }
            Edge.violates("one of 301", 1009, OtherEnd.head(first, 301));
        }
    }

    /** The same with MOREs: the sum counts, and is found at the last byte of the length. */
    private static void contentAbove300WithMores() {
        for (int first : new int[] {OtherEnd.TEXT, OtherEnd.BYTES}) {
            for (int before : new int[] {0, 1, 150, 174, 175, 176, 299, 300}) {
                byte[] begin = OtherEnd.frame(first, OtherEnd.many('c', before));
                int rest = 300 - before;
                dueDelivered(before + " and up to 300",
                    OtherEnd.join(begin, OtherEnd.frame(128, OtherEnd.many('d', rest))), 300);
                Edge.violates(before + " and up to 301", 1009, begin, OtherEnd.head(128, rest + 1));
                Edge.violates(before + " and up to 302", 1009, begin, OtherEnd.head(0, rest + 2));
            }
        }
        byte[] three = OtherEnd.join(begun(1), OtherEnd.frame(0, OtherEnd.many('d', 149)),
            OtherEnd.frame(0, OtherEnd.many('e', 149)));
        dueDelivered("300 in four", OtherEnd.join(three, OtherEnd.frame(128, OtherEnd.many('f', 1))), 300);
        Edge.violates("301 in four", 1009, three, OtherEnd.head(128, 2));
    }

    /** "the message's content": that of the one before, delivered or lost, counts no more. */
    private static void contentCountsAnewInEachMessage() {
        FramedTalk x = OtherEnd.open();
        byte[] full = OtherEnd.frame(130, OtherEnd.many(9, 300));
        for (int i = 1; i <= 5; i++) {
            OtherEnd.due("feed of one of 300", OtherEnd.feed(x, full), 1);
            OtherEnd.due("delivered", x.delivered(), i);
        }
        OtherEnd.due("state", x.state(), OtherEnd.OPEN);
        OtherEnd.feed(x, OtherEnd.head(130, 301));
        OtherEnd.due("endCode behind 301", x.endCode(), 1009);
    }

    /** "when it is no short one": one of 125 bytes may come when a message has 300 already. */
    private static void shortContentDoesNotCount() {
        byte[] full = OtherEnd.frame(OtherEnd.BYTES, OtherEnd.many(9, 300));
        for (int kind : SHORT_ONES) {
            Edge.stands(kind + " of 125 behind 300", full, OtherEnd.bytes(OtherEnd.LAST + kind, 128 + 125));
            Edge.violates(kind + " of 126 behind 300", 1002, full, OtherEnd.bytes(OtherEnd.LAST + kind, 128 + 126));
        }
        dueDelivered("300, a PONG of 125 and an empty MORE",
            OtherEnd.join(full, OtherEnd.frame(138, OtherEnd.many(1, 125)), OtherEnd.frame(128, NONE)), 300);
    }

    /** "1002; else, ... 1009": what is both is 1002. */
    private static void wrongLengthBeforeTooLong() {
        byte[] full = OtherEnd.frame(OtherEnd.BYTES, OtherEnd.many(9, 300));
        Edge.violates("125 in two bytes behind 300", 1002, full, OtherEnd.bytes(128, 254, 0, 125));
        Edge.violates("126 in two bytes behind 300", 1009, full, OtherEnd.bytes(128, 254, 0, 126));
        Edge.violates("65535 in eight bytes behind 300", 1002, full, OtherEnd.longHead(128, 65535));
        Edge.violates("65536 in eight bytes behind 300", 1009, full, OtherEnd.longHead(128, 65536));
        Edge.violates("1 behind 300, not masked", 1002, full, OtherEnd.bytes(128, 1));
        Edge.violates("a TEXT behind 300", 1002, full, OtherEnd.bytes(129));
    }

    /** "with byte i % 4 of the mask": contents of 1 to 9 bytes, and the longest ones. */
    private static void maskComesRound() {
        byte[][] masks = {{0, 0, 0, 0}, {1, 2, 4, 8}, {-1, 0, -128, 127}, {-1, -1, -1, -1}};
        for (byte[] mask : masks) {
            for (int size : new int[] {1, 2, 3, 4, 5, 6, 7, 8, 9, 125, 126, 127}) {
                byte[] content = new byte[size];
                for (int i = 0; i < size; i++) {
                    content[i] = (byte) (i * 37 + 200);
                }
                FramedTalk x = OtherEnd.open();
                OtherEnd.feed(x, OtherEnd.frame(130, content, mask));
                OtherEnd.due("content of " + size, OtherEnd.message(x, 0), OtherEnd.asSigns(content));
            }
        }
    }

    /** Each frame has a mask of its own, and i counts from 0 in each. */
    private static void maskOfEachFrame() {
        FramedTalk x = OtherEnd.open();
        OtherEnd.feed(x,
            OtherEnd.frame(2, OtherEnd.bytes(1, 2, 3, 4, 5), new byte[] {9, 8, 7, 6}),
            OtherEnd.frame(137, OtherEnd.bytes(60, 61), new byte[] {1, 1, 1, 1}),
            OtherEnd.frame(0, OtherEnd.bytes(6, 7, 8), new byte[] {-1, 33, 77, 2}),
            OtherEnd.frame(128, OtherEnd.bytes(9), new byte[] {55, 0, 0, 0}));
        OtherEnd.due("the message", OtherEnd.message(x, 0), OtherEnd.asSigns(1, 2, 3, 4, 5, 6, 7, 8, 9));
        OtherEnd.dueOut("the PONG", x, 138, 2, 60, 61);
    }

    /** "(of its mask, when its content is empty)": a frame without content is whole at its mask's fourth byte. */
    private static void emptyContentIsWholeAtTheMask() {
        for (int first : new int[] {129, 130}) {
            dueDelivered("an empty " + first, OtherEnd.bytes(first, 128, 7, 7, 7, 7), 0);
            dueDelivered("an empty last MORE", OtherEnd.bytes(first - 128, 128, 7, 7, 7, 7, 128, 128, 7, 7, 7, 7), 0);
        }
        FramedTalk ping = Edge.stands("a PING without its mask's last byte", OtherEnd.bytes(137, 128, 7, 7, 7));
        OtherEnd.due("outLength before", ping.outLength(), 0);
        ping.feed(7, 1);
        OtherEnd.dueOut("the PONG", ping, 138, 0);
        FramedTalk pong = Edge.stands("a PONG without its mask's last byte", OtherEnd.bytes(138, 128, 7, 7, 7));
        OtherEnd.due("pongs before", pong.pongs(), 0);
        pong.feed(7, 1);
        OtherEnd.due("pongs", pong.pongs(), 1);
        FramedTalk close = Edge.stands("a CLOSE without its mask's last byte", OtherEnd.bytes(136, 128, 7, 7, 7));
        close.feed(7, 1);
        OtherEnd.due("state behind a CLOSE", close.state(), OtherEnd.CLOSED);
    }

    /** "of a message's last frame: the message is DELIVERED": not at one that is not last. */
    private static void deliveredAtTheLastByte() {
        dueDelivered("one frame", OtherEnd.frame(129, OtherEnd.signs("one")), 3);
        dueDelivered("two frames", OtherEnd.join(begun(1), OtherEnd.frame(128, OtherEnd.signs("two"))), 4);
        dueDelivered("three frames", OtherEnd.join(begun(2), begun(0), OtherEnd.frame(128, OtherEnd.signs("x"))), 3);
        FramedTalk x = Edge.stands("not last", begun(1), begun(0), begun(0), OtherEnd.frame(0, NONE));
        OtherEnd.due("delivered without a last one", x.delivered(), 0);
        OtherEnd.due("messages without a last one", x.messages(), 0);
    }

    /** "in state OPEN this end says a CLOSE with the code; the state is CLOSED, and the END CODE is that code". */
    private static void whenItViolates() {
        byte[][] wrong = {OtherEnd.bytes(3), OtherEnd.head(130, 301), OtherEnd.frame(129, OtherEnd.bytes(255))};
        int[] codes = {1002, 1009, 1007};
        for (int i = 0; i < wrong.length; i++) {
            Edge.violates("alone", codes[i], wrong[i]);
            FramedTalk x = OtherEnd.open();
            OtherEnd.feed(x, OtherEnd.frame(129, OtherEnd.signs("kept")), OtherEnd.frame(138, NONE), wrong[i]);
            OtherEnd.dueEnd("behind a message", x, codes[i]);
            OtherEnd.due("the message before", OtherEnd.message(x, 0), "kept");
            OtherEnd.due("pongs before", x.pongs(), 1);
            Edge.state("feed behind it", x, () -> x.feed(0, 1));
        }
    }

    /** The limits of 400 and 470 are for others: a CLOSE is said however much OUT has. */
    private static void whenOutIsFull() {
        for (int size : new int[] {396, 397, 399, 400, 401, 466, 467, 469, 470}) {
            FramedTalk x = Edge.openWithOut(size);
            x.feed(255, 1);
            OtherEnd.due("outLength behind " + size, x.outLength(), size + 4);
            OtherEnd.due("its first byte", x.outAt(size), 136);
            OtherEnd.due("its last byte", x.outAt(size + 3), 1002 & 255);
            FramedTalk y = Edge.openWithOut(size);
            OtherEnd.feed(y, OtherEnd.closeFrame(4999, NONE));
            OtherEnd.due("outLength of an answer behind " + size, y.outLength(), size + 4);
            OtherEnd.due("its last byte", y.outAt(size + 3), 4999 & 255);
        }
    }
}
