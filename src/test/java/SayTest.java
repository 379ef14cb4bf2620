/** Promises 5 to 7 and 15 to 19: OUT, the draft, and what this end says of its own. */
public final class SayTest {
    public static void main(String[] args) {
        outAndDrop();
        writes();
        clears();
        sends();
        sendArguments();
        refusedTextLeavesNothing();
        sendLimit();
        pings();
        pongLimit();
        closeFrames();
        closeArguments();
        fullOut();
        notOpen();
        OtherEnd.end();
    }

    private static void outAndDrop() {
        FramedTalk x = OtherEnd.open();
        OtherEnd.write(x, OtherEnd.bytes(1, 2, 200, 255));
        x.send(2, 0);
        OtherEnd.due("outLength", x.outLength(), 6);
        OtherEnd.dueOut("sent", x, 130, 4, 1, 2, 200, 255);
        for (int i : new int[] {-1, 6, 7, 600, Integer.MAX_VALUE, Integer.MIN_VALUE}) {
            OtherEnd.dueIndex("outAt(" + i + ")", () -> x.outAt(i));
        }
        for (int n : new int[] {-1, 7, 600, Integer.MAX_VALUE, Integer.MIN_VALUE}) {
            OtherEnd.due("drop(" + n + ")", x.drop(n), false);
        }
        OtherEnd.due("drop(0)", x.drop(0), true);
        OtherEnd.dueOut("as before", x, 130, 4, 1, 2, 200, 255);
        OtherEnd.due("drop(3)", x.drop(3), true);
        OtherEnd.dueOut("behind a drop", x, 2, 200, 255);
        x.ping();
        OtherEnd.dueOut("said behind a drop", x, 2, 200, 255, 137, 4, 1, 2, 200, 255);
        OtherEnd.due("drop of all", x.drop(9), true);
        OtherEnd.due("outLength", x.outLength(), 0);
        OtherEnd.dueIndex("outAt(0)", () -> x.outAt(0));
    }

    private static void writes() {
        for (int n : new int[] {0, -1, 9, Integer.MIN_VALUE, Integer.MAX_VALUE}) {
            OtherEnd.due("write of " + n, new FramedTalk().write(5, n), false);
        }
        FramedTalk x = OtherEnd.open();
        OtherEnd.due("write of 2", x.write(0x112233, 2), true);
        OtherEnd.due("write of 8", x.write(0xF0E0D0C0B0A09080L, 8), true);
        OtherEnd.due("write of 9", x.write(1, 9), false);
        x.send(2, 0);
        OtherEnd.dueOut("written", x, 130, 10, 0x33, 0x22, 0x80, 0x90, 0xA0, 0xB0, 0xC0, 0xD0, 0xE0, 0xF0);
        OtherEnd.write(x, OtherEnd.many(5, 87));
        OtherEnd.due("write past 100", x.write(0x01010101, 4), false);
        OtherEnd.due("write up to 100", x.write(0x070707, 3), true);
        OtherEnd.due("write past 100", x.write(1, 1), false);
        x.drop(x.outLength());
        x.send(2, 0);
        OtherEnd.due("outLength", x.outLength(), 102);
        OtherEnd.due("the last one", x.outAt(101), 7);
        OtherEnd.due("the one before the last three", x.outAt(98), 5);
    }

    private static void clears() {
        FramedTalk x = new FramedTalk();
        OtherEnd.write(x, OtherEnd.many(1, 100));
        x.clear();
        OtherEnd.write(x, OtherEnd.signs("kept"));
        OtherEnd.feed(x, OtherEnd.signs(OtherEnd.goodRequest(OtherEnd.KEY)));
        x.drop(x.outLength());
        x.send(1, 0);
        OtherEnd.dueOut("a draft from before", x, 129, 4, 'k', 'e', 'p', 't');
        x.clear();
        x.send(1, 0);
        OtherEnd.dueOut("an empty draft", x, 129, 4, 'k', 'e', 'p', 't', 129, 0);
    }

    private static void sends() {
        FramedTalk x = OtherEnd.open();
        for (int size : new int[] {0, 1, 100}) {
            OtherEnd.due("send of nothing, " + size, x.send(2, size), 1);
        }
        OtherEnd.dueOut("nothing", x, 130, 0, 130, 0, 130, 0);
        x.drop(6);
        OtherEnd.write(x, OtherEnd.signs("abcdef"));
        OtherEnd.due("send by 4", x.send(1, 4), 2);
        OtherEnd.dueOut("by 4", x, 1, 4, 'a', 'b', 'c', 'd', 128, 2, 'e', 'f');
        x.drop(10);
        OtherEnd.due("send by 2", x.send(2, 2), 3);
        OtherEnd.dueOut("by 2", x, 2, 2, 'a', 'b', 0, 2, 'c', 'd', 128, 2, 'e', 'f');
        x.drop(12);
        OtherEnd.due("send by 1", x.send(2, 1), 6);
        OtherEnd.due("outLength by 1", x.outLength(), 18);
        OtherEnd.due("the last's first byte", x.outAt(15), 128);
        OtherEnd.due("the one before", x.outAt(12), 0);
        x.drop(18);
        for (int size : new int[] {0, 6, 7, 100}) {
            OtherEnd.due("send by " + size, x.send(1, size), 1);
            OtherEnd.dueOut("by " + size, x, 129, 6, 'a', 'b', 'c', 'd', 'e', 'f');
            x.drop(8);
        }
        OtherEnd.due("send by 5", x.send(1, 5), 2);
        OtherEnd.dueOut("by 5", x, 1, 5, 'a', 'b', 'c', 'd', 'e', 128, 1, 'f');
        // A text may be cut within a character.
        x.clear();
        x.drop(x.outLength());
        OtherEnd.write(x, OtherEnd.bytes(226, 130, 172));
        OtherEnd.due("send by 2", x.send(1, 2), 2);
        OtherEnd.dueOut("cut within a character", x, 1, 2, 226, 130, 128, 1, 172);
    }

    private static void sendArguments() {
        FramedTalk x = OtherEnd.open();
        for (int kind : new int[] {0, 3, -1, 8, 9, 129, Integer.MAX_VALUE, Integer.MIN_VALUE}) {
            OtherEnd.dueArgument("send of kind " + kind, () -> x.send(kind, 0));
        }
        for (int size : new int[] {-1, 101, Integer.MAX_VALUE, Integer.MIN_VALUE}) {
            OtherEnd.dueArgument("send in " + size, () -> x.send(1, size));
            OtherEnd.dueArgument("send in " + size, () -> x.send(2, size));
        }
        OtherEnd.due("outLength", x.outLength(), 0);
    }

    private static void refusedTextLeavesNothing() {
        FramedTalk x = OtherEnd.open();
        OtherEnd.write(x, OtherEnd.bytes('a', 226));
        OtherEnd.dueArgument("send of half a character", () -> x.send(1, 0));
        OtherEnd.dueArgument("close with half a character", () -> x.close(1000));
        OtherEnd.write(x, OtherEnd.bytes(130, 172));
        OtherEnd.due("send of the whole one", x.send(1, 0), 1);
        x.drop(x.outLength());
        x.close(1000);
        OtherEnd.dueOut("close with the whole one", x, 136, 6, 3, 232, 'a', 226, 130, 172);
    }

    private static void fill(FramedTalk x, int size) {
        x.clear();
        for (int round = 0; round < 8 && x.outLength() < size; round++) {
            int left = size - x.outLength();
            x.clear();
            int piece = left <= 102 ? left : Math.min(102, left - 2);
            OtherEnd.write(x, OtherEnd.many('f', piece - 2));
            x.send(2, 0);
        }
        OtherEnd.due("filled", x.outLength(), size);
        x.clear();
    }

    private static void sendLimit() {
        FramedTalk x = OtherEnd.open();
        fill(x, 390);
        OtherEnd.write(x, OtherEnd.many('a', 8));
        OtherEnd.dueState("send in two frames, up to 402", () -> x.send(2, 4));
        OtherEnd.due("outLength", x.outLength(), 390);
        OtherEnd.due("send up to 400", x.send(2, 0), 1);
        OtherEnd.due("outLength", x.outLength(), 400);
        OtherEnd.dueState("send behind 400", () -> x.send(2, 0));
        x.clear();
        OtherEnd.dueState("send of nothing behind 400", () -> x.send(2, 0));
        OtherEnd.dueArgument("a wrong kind behind 400", () -> x.send(3, 0));
        OtherEnd.dueState("ping behind 400", () -> x.ping());
        x.drop(1);
        OtherEnd.dueState("send up to 401", () -> x.send(2, 0));
        x.drop(1);
        OtherEnd.due("send of nothing up to 400", x.send(2, 0), 1);
        FramedTalk y = OtherEnd.open();
        OtherEnd.write(y, OtherEnd.many('b', 100));
        OtherEnd.due("a hundred frames", y.send(1, 1), 100);
        OtherEnd.due("outLength", y.outLength(), 300);
        OtherEnd.dueState("three hundred bytes more", () -> y.send(1, 1));
        OtherEnd.dueState("102 bytes more", () -> y.send(1, 0));
        OtherEnd.due("outLength", y.outLength(), 300);
    }

    private static void pings() {
        FramedTalk x = OtherEnd.open();
        x.ping();
        OtherEnd.write(x, OtherEnd.bytes(255, 0, 128));
        x.ping();
        OtherEnd.dueOut("pings", x, 137, 0, 137, 3, 255, 0, 128);
        FramedTalk y = OtherEnd.open();
        fill(y, 395);
        OtherEnd.write(y, OtherEnd.many('c', 4));
        OtherEnd.dueState("ping up to 401", () -> y.ping());
        OtherEnd.due("outLength", y.outLength(), 395);
        y.clear();
        OtherEnd.write(y, OtherEnd.many('c', 3));
        y.ping();
        OtherEnd.due("outLength", y.outLength(), 400);
        OtherEnd.due("its first byte", y.outAt(395), 137);
        OtherEnd.due("its last byte", y.outAt(399), 'c');
    }

    private static void pongLimit() {
        FramedTalk x = OtherEnd.open();
        fill(x, 400);
        OtherEnd.feed(x, OtherEnd.frame(137, OtherEnd.many('p', 69)));
        OtherEnd.due("a PONG up to 471 is not said", x.outLength(), 400);
        OtherEnd.due("state", x.state(), OtherEnd.OPEN);
        OtherEnd.feed(x, OtherEnd.frame(137, OtherEnd.many('p', 68)));
        OtherEnd.due("a PONG up to 470 is said", x.outLength(), 470);
        OtherEnd.due("its first byte", x.outAt(400), 138);
        OtherEnd.due("its length", x.outAt(401), 68);
        OtherEnd.due("its last byte", x.outAt(469), 'p');
        OtherEnd.feed(x, OtherEnd.frame(137, new byte[0]));
        OtherEnd.due("an empty PONG behind 470", x.outLength(), 470);
        x.drop(1);
        OtherEnd.feed(x, OtherEnd.frame(137, new byte[0]));
        OtherEnd.due("an empty PONG up to 471", x.outLength(), 469);
        x.drop(1);
        OtherEnd.feed(x, OtherEnd.frame(137, new byte[0]));
        OtherEnd.due("an empty PONG up to 470", x.outLength(), 470);
        FramedTalk y = OtherEnd.open();
        OtherEnd.feed(y, OtherEnd.frame(137, OtherEnd.many('q', 125)));
        OtherEnd.due("the longest PONG", OtherEnd.out(y), OtherEnd.asSigns(138, 125) + "q".repeat(125));
    }

    private static void closeFrames() {
        FramedTalk x = OtherEnd.open();
        OtherEnd.write(x, OtherEnd.utf8("ad\u00e9"));
        x.close(4001);
        OtherEnd.dueOut("close", x, 136, 6, 15, 161, 'a', 'd', 195, 169);
        OtherEnd.due("state", x.state(), OtherEnd.CLOSING);
        OtherEnd.due("endCode", x.endCode(), 0);
        OtherEnd.dueState("a second close", () -> x.close(1000));
        FramedTalk bare = OtherEnd.open();
        bare.close(1000);
        OtherEnd.dueOut("close without a draft", bare, 136, 2, 3, 232);
    }

    private static void closeArguments() {
        for (int code : new int[] {0, -1, 999, 1004, 1005, 1006, 1012, 1015, 2999, 5000, 65536 + 1000, Integer.MIN_VALUE,
            Integer.MAX_VALUE}) {
            FramedTalk x = OtherEnd.open();
            OtherEnd.dueArgument("close(" + code + ")", () -> x.close(code));
            OtherEnd.due("state", x.state(), OtherEnd.OPEN);
            OtherEnd.due("outLength", x.outLength(), 0);
        }
        for (int code : new int[] {1000, 1001, 1002, 1003, 1007, 1008, 1009, 1010, 1011, 3000, 4999}) {
            FramedTalk x = OtherEnd.open();
            x.close(code);
            OtherEnd.dueOut("close(" + code + ")", x, 136, 2, code >> 8, code & 255);
        }
    }

    private static void fullOut() {
        FramedTalk x = OtherEnd.open();
        fill(x, 400);
        OtherEnd.feed(x, OtherEnd.frame(137, OtherEnd.many('p', 68)));
        OtherEnd.write(x, OtherEnd.many('d', 100));
        x.close(1000);
        OtherEnd.due("outLength", x.outLength(), 574);
        OtherEnd.due("the last byte", x.outAt(573), 'd');
        OtherEnd.due("the length", x.outAt(471), 102);
        OtherEnd.dueIndex("outAt(574)", () -> x.outAt(574));
        OtherEnd.due("drop(574)", x.drop(574), true);
        FramedTalk y = OtherEnd.open();
        fill(y, 400);
        OtherEnd.feed(y, OtherEnd.frame(137, OtherEnd.many('p', 68)));
        OtherEnd.feed(y, OtherEnd.bytes(255));
        OtherEnd.due("a violation is said however much OUT has", y.outLength(), 474);
        FramedTalk z = OtherEnd.open();
        fill(z, 400);
        OtherEnd.feed(z, OtherEnd.frame(137, OtherEnd.many('p', 68)), OtherEnd.closeFrame(1001, new byte[0]));
        OtherEnd.due("a CLOSE is answered however much OUT has", z.outLength(), 474);
    }

    private static void notOpen() {
        FramedTalk closing = OtherEnd.open();
        closing.close(1000);
        FramedTalk closed = OtherEnd.open();
        OtherEnd.feed(closed, OtherEnd.frame(136, new byte[0]));
        for (FramedTalk x : new FramedTalk[] {new FramedTalk(), closing, closed}) {
            int before = x.outLength();
            int state = x.state();
            OtherEnd.dueState("send", () -> x.send(1, 0));
            OtherEnd.dueState("ping", () -> x.ping());
            OtherEnd.dueState("close", () -> x.close(1000));
            OtherEnd.dueArgument("send(3, 0)", () -> x.send(3, 0));
            OtherEnd.dueArgument("close(1005)", () -> x.close(1005));
            OtherEnd.due("write", x.write(255, 1), true);
            OtherEnd.dueArgument("send of no text", () -> x.send(1, 0));
            OtherEnd.dueState("send of bytes", () -> x.send(2, 0));
            OtherEnd.dueArgument("close with no text", () -> x.close(1000));
            x.clear();
            OtherEnd.dueState("send of a cleared draft", () -> x.send(1, 0));
            OtherEnd.due("state as before", x.state(), state);
            OtherEnd.due("outLength as before", x.outLength(), before);
        }
    }
}
