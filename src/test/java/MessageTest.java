/** Promises 8 to 14: the messages that wait, those that are lost, and the PONGs that came. */
public final class MessageTest {
    public static void main(String[] args) {
        waitingInOrder();
        lostOnes();
        manyInOneFeed();
        ringGoesRound();
        wrongArguments();
        longOnes();
        afterTheEnd();
        pongs();
        OtherEnd.end();
    }

    private static byte[] text(String content) {
        return OtherEnd.frame(129, OtherEnd.signs(content));
    }

    private static void dueMessage(FramedTalk x, int k, int kind, String content) {
        OtherEnd.due("kind(" + k + ")", x.kind(k), kind);
        OtherEnd.due("length(" + k + ")", x.length(k), content.length());
        OtherEnd.due("message " + k, OtherEnd.message(x, k), content);
    }

    private static void waitingInOrder() {
        FramedTalk x = OtherEnd.open();
        OtherEnd.due("feed of a part", OtherEnd.feed(x, OtherEnd.frame(2, OtherEnd.bytes(0, 255))), 0);
        OtherEnd.due("messages under way", x.messages(), 0);
        OtherEnd.due("feed of the last", OtherEnd.feed(x, OtherEnd.frame(128, OtherEnd.bytes(7))), 1);
        OtherEnd.feed(x, text("two"));
        OtherEnd.feed(x, text(""));
        OtherEnd.due("messages", x.messages(), 3);
        OtherEnd.due("delivered", x.delivered(), 3);
        dueMessage(x, 0, 2, OtherEnd.asSigns(0, 255, 7));
        dueMessage(x, 1, 1, "two");
        dueMessage(x, 2, 1, "");
        OtherEnd.due("take", x.take(), 3);
        dueMessage(x, 0, 1, "two");
        OtherEnd.due("messages behind take", x.messages(), 2);
        OtherEnd.due("delivered behind take", x.delivered(), 3);
        OtherEnd.due("take", x.take(), 3);
        OtherEnd.due("take of an empty one", x.take(), 0);
        OtherEnd.dueElement("take of none", () -> x.take());
        OtherEnd.due("messages at last", x.messages(), 0);
    }

    private static void lostOnes() {
        FramedTalk x = OtherEnd.open();
        for (String content : new String[] {"a", "bb", "ccc", "dddd"}) {
            OtherEnd.due("feed", OtherEnd.feed(x, text(content)), 1);
        }
        OtherEnd.due("feed of one that is lost", OtherEnd.feed(x, text("lost")), 1);
        OtherEnd.due("messages", x.messages(), 4);
        OtherEnd.due("delivered", x.delivered(), 5);
        OtherEnd.dueElement("kind(4)", () -> x.kind(4));
        dueMessage(x, 3, 1, "dddd");
        dueMessage(x, 0, 1, "a");
        x.take();
        OtherEnd.feed(x, OtherEnd.frame(130, OtherEnd.signs("eeeee")));
        dueMessage(x, 3, 2, "eeeee");
        dueMessage(x, 2, 1, "dddd");
        OtherEnd.due("delivered", x.delivered(), 6);
    }

    private static void manyInOneFeed() {
        FramedTalk x = OtherEnd.open();
        byte[] emptyText = OtherEnd.bytes(129, 128, 0, 0, 0, 0);
        byte[] emptyBytes = OtherEnd.bytes(130, 128, 0, 0, 0, 0);
        long restAndNext = OtherEnd.word(OtherEnd.join(OtherEnd.bytes(0), emptyBytes), 0, 7);
        OtherEnd.due("none yet", x.feed(OtherEnd.word(emptyText, 0, 5), 5), 0);
        OtherEnd.due("two at once", x.feed(restAndNext, 7), 2);
        OtherEnd.due("messages", x.messages(), 2);
        OtherEnd.due("kind(0)", x.kind(0), 1);
        OtherEnd.due("kind(1)", x.kind(1), 2);
        FramedTalk y = OtherEnd.open();
        for (int i = 0; i < 4; i++) {
            OtherEnd.feed(y, text("x"));
        }
        y.feed(OtherEnd.word(emptyText, 0, 5), 5);
        OtherEnd.due("two lost ones at once", y.feed(restAndNext, 7), 2);
        OtherEnd.due("delivered", y.delivered(), 6);
        FramedTalk z = OtherEnd.open();
        long oneAndWrong = OtherEnd.word(OtherEnd.join(emptyText, OtherEnd.bytes(255)), 0, 7);
        OtherEnd.due("one before the byte that ends the talk", z.feed(oneAndWrong, 7), 1);
        OtherEnd.due("state", z.state(), OtherEnd.CLOSED);
        OtherEnd.due("messages", z.messages(), 1);
    }

    private static void ringGoesRound() {
        FramedTalk x = OtherEnd.open();
        OtherEnd.feed(x, text("0"), text("1"));
        for (int i = 2; i < 20; i++) {
            OtherEnd.feed(x, text(Integer.toString(i)));
            OtherEnd.due("length taken", x.take(), Integer.toString(i - 2).length());
            dueMessage(x, 0, 1, Integer.toString(i - 1));
            dueMessage(x, 1, 1, Integer.toString(i));
        }
        OtherEnd.due("delivered", x.delivered(), 20);
    }

    private static void wrongArguments() {
        FramedTalk x = OtherEnd.open();
        OtherEnd.feed(x, text("abc"), text(""));
        for (int k : new int[] {-1, 2, 3, 4, 5, Integer.MAX_VALUE, Integer.MIN_VALUE}) {
            OtherEnd.dueElement("kind(" + k + ")", () -> x.kind(k));
            OtherEnd.dueElement("length(" + k + ")", () -> x.length(k));
            OtherEnd.dueElement("byteAt(" + k + ", 0)", () -> x.byteAt(k, 0));
            OtherEnd.dueElement("byteAt(" + k + ", -1)", () -> x.byteAt(k, -1));
        }
        for (int i : new int[] {-1, 3, 300, 301, Integer.MAX_VALUE, Integer.MIN_VALUE}) {
            OtherEnd.dueIndex("byteAt(0, " + i + ")", () -> x.byteAt(0, i));
        }
        OtherEnd.dueIndex("byteAt(1, 0)", () -> x.byteAt(1, 0));
        OtherEnd.due("messages as before", x.messages(), 2);
    }

    private static void longOnes() {
        FramedTalk x = OtherEnd.open();
        for (int m = 0; m < 4; m++) {
            byte[] row = new byte[300];
            for (int i = 0; i < 300; i++) {
                row[i] = (byte) (i * 7 + m * 31);
            }
            OtherEnd.feed(x, OtherEnd.frame(130, row));
        }
        for (int m = 0; m < 4; m++) {
            OtherEnd.due("length", x.length(m), 300);
            for (int i : new int[] {0, 1, 127, 255, 298, 299}) {
                OtherEnd.due("byte", x.byteAt(m, i), i * 7 + m * 31 & 255);
            }
            int k = m;
            OtherEnd.dueIndex("byteAt(k, 300)", () -> x.byteAt(k, 300));
        }
    }

    private static void afterTheEnd() {
        FramedTalk x = OtherEnd.open();
        OtherEnd.feed(x, text("stays"), OtherEnd.frame(136, new byte[0]));
        OtherEnd.due("state", x.state(), OtherEnd.CLOSED);
        dueMessage(x, 0, 1, "stays");
        OtherEnd.due("take when closed", x.take(), 5);
    }

    private static void pongs() {
        FramedTalk x = OtherEnd.open();
        OtherEnd.feed(x, OtherEnd.frame(138, new byte[0]));
        OtherEnd.feed(x, OtherEnd.frame(138, OtherEnd.many(9, 125)));
        OtherEnd.feed(x, OtherEnd.frame(137, OtherEnd.signs("ping")));
        OtherEnd.due("pongs", x.pongs(), 2);
        OtherEnd.due("delivered", x.delivered(), 0);
        OtherEnd.dueOut("a PONG is not answered", x, 138, 4, 'p', 'i', 'n', 'g');
        OtherEnd.feed(x, OtherEnd.bytes(138, 128, 0, 0, 0));
        OtherEnd.due("pongs before the last byte", x.pongs(), 2);
        x.feed(0, 1);
        OtherEnd.due("pongs at the last byte", x.pongs(), 3);
    }
}
