import java.util.Arrays;

/** Promises 2 to 4: frames that come in, and the byte at which each violation is found. */
public final class FrameTest {
    public static void main(String[] args) {
        arguments();
        lowestByteFirst();
        firstBytes();
        secondBytes();
        lengths();
        tooLong();
        masks();
        shortOnesBetween();
        closes();
        closesThatViolate();
        whenClosing();
        bytesBehindTheEnd();
        OtherEnd.end();
    }

    private static void arguments() {
        FramedTalk x = new FramedTalk();
        for (int n : new int[] {0, -1, 9, Integer.MIN_VALUE, Integer.MAX_VALUE}) {
            OtherEnd.dueArgument("feed of " + n, () -> x.feed(0, n));
        }
        OtherEnd.feed(x, OtherEnd.signs("\r\n\r\n"));
        OtherEnd.dueArgument("feed of 0 when closed", () -> x.feed(0, 0));
        OtherEnd.dueArgument("feed of 9 when closed", () -> x.feed(0, 9));
        for (int n = 1; n <= 8; n++) {
            int count = n;
            OtherEnd.dueState("feed of " + n + " when closed", () -> x.feed(-1, count));
        }
    }

    private static void lowestByteFirst() {
        FramedTalk x = OtherEnd.open();
        OtherEnd.due("an empty ping and more above", x.feed(0xFFFF000000008089L, 6), 0);
        OtherEnd.dueOut("an empty ping", x, 138, 0);
        OtherEnd.due("state", x.state(), OtherEnd.OPEN);
    }

    private static byte[] begun() {
        return OtherEnd.frame(OtherEnd.BYTES, OtherEnd.signs("x"));
    }

    private static void firstBytes() {
        for (int first = 0; first < 256; first++) {
            int kind = first & 15;
            boolean isShort = kind >= 8 && kind <= 10;
            boolean plain = (first & 112) == 0;
            boolean alone = plain && (kind == 1 || kind == 2 || isShort && first >= 128);
            boolean between = plain && (kind == 0 || isShort && first >= 128);
            byte[] row = OtherEnd.bytes(first);
            if (alone) {
                Edge.stands("first byte " + first, row);
            } else {
                Edge.violates("first byte " + first, 1002, row);
            }
            if (between) {
                Edge.stands("first byte " + first + " under way", begun(), row);
            } else {
                Edge.violates("first byte " + first + " under way", 1002, begun(), row);
            }
        }
        Edge.violates("a MORE behind the last", 1002, OtherEnd.frame(129, OtherEnd.signs("a")), OtherEnd.bytes(128));
        Edge.violates("a MORE behind the last MORE", 1002, begun(), OtherEnd.frame(128, OtherEnd.signs("a")),
            OtherEnd.bytes(0));
    }

    private static void secondBytes() {
        for (int second = 0; second < 256; second++) {
            for (int first : new int[] {1, 2, 129, 130}) {
                String what = first + " and second byte " + second;
                if (second < 128) {
                    Edge.violates(what, 1002, OtherEnd.bytes(first, second));
                } else {
                    Edge.stands(what, OtherEnd.bytes(first, second));
                }
            }
            for (int first : new int[] {136, 137, 138}) {
                String what = first + " and second byte " + second;
                if (second < 128 || second > 253) {
                    Edge.violates(what, 1002, OtherEnd.bytes(first, second));
                } else {
                    Edge.stands(what, OtherEnd.bytes(first, second));
                }
            }
        }
    }

    private static void lengths() {
        for (int first : new int[] {1, 2, 129, 130}) {
            Edge.violates("two bytes of 0", 1002, OtherEnd.bytes(first, 254, 0, 0));
            Edge.violates("two bytes of 125", 1002, OtherEnd.bytes(first, 254, 0, 125));
            Edge.stands("two bytes of 126", OtherEnd.bytes(first, 254, 0, 126));
            Edge.stands("two bytes of 300", OtherEnd.bytes(first, 254, 1, 44));
            Edge.violates("two bytes of 301", 1009, OtherEnd.bytes(first, 254, 1, 45));
            Edge.violates("two bytes of 65535", 1009, OtherEnd.bytes(first, 254, 255, 255));
            for (long size : new long[] {0, 5, 126, 300, 65535, 1L << 63, (1L << 63) + 200, -1L, Long.MIN_VALUE + 65536}) {
                Edge.violates("eight bytes of " + size, 1002, OtherEnd.longHead(first, size));
            }
            for (long size : new long[] {65536, 65537, 1L << 32, (1L << 32) + 5, (1L << 62), Long.MAX_VALUE}) {
                Edge.violates("eight bytes of " + size, 1009, OtherEnd.longHead(first, size));
            }
        }
    }

    private static void tooLong() {
        byte[] begin = OtherEnd.frame(OtherEnd.BYTES, OtherEnd.many(7, 200));
        Edge.stands("200 and 100", begin, OtherEnd.bytes(0, 228));
        Edge.violates("200 and 101", 1009, begin, OtherEnd.bytes(0, 229));
        Edge.violates("200 and 126", 1009, begin, OtherEnd.bytes(0, 254, 0, 126));
        Edge.violates("200 and 125 in two bytes", 1002, begin, OtherEnd.bytes(0, 254, 0, 125));
        Edge.violates("200 and 101, not masked", 1002, begin, OtherEnd.bytes(0, 101));
        byte[] full = OtherEnd.frame(OtherEnd.TEXT, OtherEnd.many('a', 300));
        Edge.stands("300 and 0", full, OtherEnd.bytes(0, 128));
        Edge.violates("300 and 1", 1009, full, OtherEnd.bytes(128, 129));
        FramedTalk x = Edge.stands("300 and a ping of 125", full, OtherEnd.frame(137, OtherEnd.many(1, 125)),
            OtherEnd.frame(128, new byte[0]));
        OtherEnd.due("length of 300", x.length(0), 300);
        OtherEnd.due("delivered", x.delivered(), 1);
        Edge.stands("300 behind another of 300", OtherEnd.frame(129, OtherEnd.many('a', 300)), OtherEnd.head(130, 300));
    }

    private static void masks() {
        byte[] content = OtherEnd.bytes(0, 1, 127, 128, 254, 255, 77, 13, 10);
        for (byte[] mask : new byte[][] {{0, 0, 0, 0}, {1, 2, 3, 4}, {-1, -1, -1, -1}, {-128, 127, 0, 85}}) {
            for (int piece = 1; piece <= 8; piece++) {
                FramedTalk x = OtherEnd.open();
                byte[] row = OtherEnd.join(
                    OtherEnd.frame(2, Arrays.copyOf(content, 3), mask),
                    OtherEnd.frame(128, Arrays.copyOfRange(content, 3, 9), mask));
                OtherEnd.due("delivered", OtherEnd.feedBy(piece, x, row), 1);
                OtherEnd.due("content", OtherEnd.message(x, 0), OtherEnd.asSigns(content));
            }
        }
    }

    private static void shortOnesBetween() {
        FramedTalk x = OtherEnd.open();
        byte[] euro = OtherEnd.utf8("\u20ac");
        int delivered = OtherEnd.feed(x,
            OtherEnd.frame(1, Arrays.copyOf(euro, 1)),
            OtherEnd.frame(137, OtherEnd.bytes(255)),
            OtherEnd.frame(0, Arrays.copyOfRange(euro, 1, 2)),
            OtherEnd.frame(138, OtherEnd.bytes(200, 1)),
            OtherEnd.frame(0, new byte[0]),
            OtherEnd.frame(128, Arrays.copyOfRange(euro, 2, 3)));
        OtherEnd.due("delivered", delivered, 1);
        OtherEnd.due("the text", OtherEnd.message(x, 0), OtherEnd.asSigns(euro));
        OtherEnd.due("pongs", x.pongs(), 1);
        OtherEnd.dueOut("the pong", x, 138, 1, 255);
    }

    private static boolean mayStand(int code) {
        return code >= 1000 && code <= 1003 || code >= 1007 && code <= 1011 || code >= 3000 && code <= 4999;
    }

    private static void closes() {
        FramedTalk bare = OtherEnd.open();
        OtherEnd.feed(bare, OtherEnd.frame(136, new byte[0]));
        OtherEnd.due("a bare CLOSE: state", bare.state(), OtherEnd.CLOSED);
        OtherEnd.due("a bare CLOSE: endCode", bare.endCode(), 1005);
        OtherEnd.dueOut("a bare CLOSE", bare, 136, 0);
        for (int code : new int[] {0, 1, 999, 1000, 1001, 1002, 1003, 1004, 1005, 1006, 1007, 1008, 1009, 1010, 1011, 1012,
            1015, 1999, 2000, 2999, 3000, 3999, 4000, 4999, 5000, 32768, 65535, 59395, 256 * 232 + 3}) {
            FramedTalk x = OtherEnd.open();
            OtherEnd.feed(x, OtherEnd.closeFrame(code, OtherEnd.utf8("caf\u00e9")));
            OtherEnd.dueEnd("CLOSE with " + code, x, mayStand(code) ? code : 1002);
        }
        FramedTalk longest = OtherEnd.open();
        OtherEnd.feed(longest, OtherEnd.closeFrame(4999, OtherEnd.many('z', 123)));
        OtherEnd.dueEnd("the longest CLOSE", longest, 4999);
        FramedTalk between = OtherEnd.open();
        OtherEnd.feed(between, begun(), OtherEnd.closeFrame(3000, new byte[0]));
        OtherEnd.dueEnd("a CLOSE under way", between, 3000);
        OtherEnd.due("delivered", between.delivered(), 0);
    }

    private static void closesThatViolate() {
        Edge.violates("CLOSE of one byte", 1002, OtherEnd.frame(136, OtherEnd.bytes(3)));
        Edge.violates("CLOSE with 1005", 1002, OtherEnd.closeFrame(1005, new byte[0]));
        Edge.violates("CLOSE with 1004 and no text", 1002, OtherEnd.closeFrame(1004, OtherEnd.bytes(255)));
        Edge.violates("CLOSE and no text", 1007, OtherEnd.closeFrame(1000, OtherEnd.bytes(255)));
        Edge.violates("CLOSE and no text, early", 1007, OtherEnd.closeFrame(1000, OtherEnd.bytes(128, 'a', 'b')));
        Edge.violates("CLOSE and half a character", 1007, OtherEnd.closeFrame(1000, OtherEnd.bytes('a', 226, 130)));
        byte[] half = OtherEnd.frame(1, OtherEnd.bytes(226));
        FramedTalk x = OtherEnd.open();
        OtherEnd.feed(x, half, OtherEnd.closeFrame(1001, OtherEnd.signs("bye")));
        OtherEnd.dueEnd("a CLOSE in the middle of a character", x, 1001);
    }

    private static void whenClosing() {
        FramedTalk x = OtherEnd.open();
        x.close(3333);
        OtherEnd.due("endCode when closing", x.endCode(), 0);
        OtherEnd.feed(x, OtherEnd.frame(137, OtherEnd.signs("a")), OtherEnd.frame(138, new byte[0]));
        OtherEnd.due("pongs when closing", x.pongs(), 1);
        OtherEnd.due("feed when closing", OtherEnd.feed(x, OtherEnd.frame(129, OtherEnd.signs("a"))), 1);
        OtherEnd.due("messages when closing", x.messages(), 1);
        OtherEnd.due("state when closing", x.state(), OtherEnd.CLOSING);
        OtherEnd.feed(x, OtherEnd.closeFrame(4000, new byte[0]));
        OtherEnd.due("state when closed", x.state(), OtherEnd.CLOSED);
        OtherEnd.due("endCode when closed", x.endCode(), 4000);
        OtherEnd.dueOut("when closed", x, 136, 2, 3333 >> 8, 3333 & 255);
        FramedTalk bare = OtherEnd.open();
        bare.close(1000);
        OtherEnd.feed(bare, OtherEnd.frame(136, new byte[0]));
        OtherEnd.due("endCode of a bare CLOSE", bare.endCode(), 1005);
        OtherEnd.due("outLength of a bare CLOSE", bare.outLength(), 4);
    }

    private static void bytesBehindTheEnd() {
        FramedTalk x = OtherEnd.open();
        OtherEnd.due("bytes behind a violation", x.feed(0x000000000081FFL, 8), 0);
        OtherEnd.dueEnd("bytes behind a violation", x, 1002);
        FramedTalk y = OtherEnd.open();
        OtherEnd.due("bytes behind a CLOSE", y.feed(0x8089000000008088L, 8), 0);
        OtherEnd.due("state behind a CLOSE", y.state(), OtherEnd.CLOSED);
        OtherEnd.due("endCode behind a CLOSE", y.endCode(), 1005);
        OtherEnd.dueOut("bytes behind a CLOSE", y, 136, 0);
        OtherEnd.dueState("feed behind a CLOSE", () -> y.feed(0, 4));
    }
}
