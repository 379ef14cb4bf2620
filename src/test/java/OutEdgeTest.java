/** The edges of OUT and of what is put behind it; over each test stand the document's words that it is for. */
public final class OutEdgeTest {
    private static final int[] FAR_OFF = {Integer.MIN_VALUE, Integer.MIN_VALUE + 1, -600, -2, -1, 600, Integer.MAX_VALUE};

    public static void main(String[] args) {
        atFirstNone();
        outAtEdges();
        outAtBehindADrop();
        dropEdges();
        dropAll();
        dropOfTheLongestOut();
        sendUpTo400();
        sendInManyFramesUpTo400();
        sendOfNothingUpTo400();
        pingUpTo400();
        above400();
        roomAgainBehindADrop();
        pongUpTo470();
        pongThatHasNoRoom();
        pongOnlyWhenOpen();
        lengthsThatAreSaid();
        OtherEnd.end();
    }

    /** "OUT, a row of bytes, at first none". */
    private static void atFirstNone() {
        FramedTalk x = new FramedTalk();
        OtherEnd.due("outLength at first", x.outLength(), 0);
        Edge.index("outAt(0) at first", x, () -> x.outAt(0));
        Edge.refused("drop(1) at first", x, () -> x.drop(1));
        OtherEnd.due("drop(0) at first", x.drop(0), true);
    }

    /** "IndexOutOfBoundsException when there is none": before the first and behind the last. */
    private static void outAtEdges() {
        for (int size : new int[] {0, 2, 3, 127, 400, 470}) {
            FramedTalk x = Edge.openWithOut(size);
            Edge.index("outAt(-1) of " + size, x, () -> x.outAt(-1));
            Edge.index("outAt behind the last of " + size, x, () -> x.outAt(size));
            if (size > 0) {
                OtherEnd.due("outAt(0) of " + size, x.outAt(0), 138);
                OtherEnd.due("outAt(1) of " + size, x.outAt(1), Math.min(size, 127) - 2);
                OtherEnd.due("the last of " + size, x.outAt(size - 1), size == 2 ? 0 : 'p');
            }
        }
        FramedTalk x = Edge.openWithOut(5);
        for (int i : FAR_OFF) {
            Edge.index("outAt(" + i + ")", x, () -> x.outAt(i));
        }
    }

    /** The same when bytes have been taken out: those that were there are there no more. */
    private static void outAtBehindADrop() {
        FramedTalk x = Edge.openWithDraft(OtherEnd.signs("abcd"));
        x.send(1, 0);
        for (int size = 6; size > 0; size--) {
            int behind = size;
            Edge.index("outAt(" + behind + ")", x, () -> x.outAt(behind));
            OtherEnd.due("the last", x.outAt(size - 1), 'd');
            OtherEnd.due("drop(1) of " + size, x.drop(1), true);
        }
        Edge.index("outAt(0) of none", x, () -> x.outAt(0));
    }

    /** "False, refused, when n is negative or it has not so many". */
    private static void dropEdges() {
        for (int size : new int[] {0, 2, 3, 400, 470}) {
            FramedTalk x = Edge.openWithOut(size);
            Edge.refused("drop(-1) of " + size, x, () -> x.drop(-1));
            Edge.refused("drop of one too many of " + size, x, () -> x.drop(size + 1));
            String before = Edge.picture(x);
            OtherEnd.due("drop(0) of " + size, x.drop(0), true);
            OtherEnd.due("seen behind drop(0)", Edge.picture(x), before);
        }
        FramedTalk x = Edge.openWithOut(9);
        for (int n : FAR_OFF) {
            Edge.refused("drop(" + n + ")", x, () -> x.drop(n));
        }
        OtherEnd.due("drop(8) of 9", x.drop(8), true);
        OtherEnd.dueOut("behind it", x, 'p');
        Edge.refused("drop(2) of 1", x, () -> x.drop(2));
        OtherEnd.due("drop(1) of 1", x.drop(1), true);
        Edge.refused("drop(1) of none", x, () -> x.drop(1));
    }

    /** "Takes the first n bytes out of OUT": all but one, all, and one by one. */
    private static void dropAll() {
        FramedTalk x = Edge.openWithDraft(OtherEnd.signs("abcdef"));
        x.send(2, 3);
        OtherEnd.dueOut("sent", x, 2, 3, 'a', 'b', 'c', 128, 3, 'd', 'e', 'f');
        OtherEnd.due("drop(1)", x.drop(1), true);
        OtherEnd.dueOut("behind drop(1)", x, 3, 'a', 'b', 'c', 128, 3, 'd', 'e', 'f');
        OtherEnd.due("drop(4)", x.drop(4), true);
        OtherEnd.dueOut("behind drop(4)", x, 128, 3, 'd', 'e', 'f');
        OtherEnd.due("drop of all but one", x.drop(4), true);
        OtherEnd.dueOut("behind that", x, 'f');
        x.ping();
        OtherEnd.dueOut("and a PING behind it", x, 'f', 137, 6, 'a', 'b', 'c', 'd', 'e', 'f');
        OtherEnd.due("drop of all", x.drop(9), true);
        OtherEnd.due("outLength", x.outLength(), 0);
        x.ping();
        OtherEnd.dueOut("said again from none", x, 137, 6, 'a', 'b', 'c', 'd', 'e', 'f');
    }

    /** The most that OUT can have: 470 bytes, and a CLOSE with 100 bytes behind its code. */
    private static void dropOfTheLongestOut() {
        FramedTalk x = Edge.openWithOut(470);
        OtherEnd.write(x, OtherEnd.many('d', 100));
        x.close(1000);
        OtherEnd.due("outLength", x.outLength(), 574);
        Edge.refused("drop(575)", x, () -> x.drop(575));
        OtherEnd.due("drop(573)", x.drop(573), true);
        OtherEnd.dueOut("behind it", x, 'd');
        FramedTalk y = Edge.openWithOut(470);
        OtherEnd.write(y, OtherEnd.many('d', 100));
        y.close(1000);
        OtherEnd.due("drop(574)", y.drop(574), true);
        OtherEnd.due("outLength", y.outLength(), 0);
    }

    private static void sendUpTo(String what, int before, int draft, int piece, int frames) {
        FramedTalk x = Edge.openWithOut(before);
        OtherEnd.write(x, OtherEnd.many('s', draft));
        int after = before + 2 * frames + draft;
        if (after > 400) {
            Edge.state(what + " up to " + after, x, () -> x.send(2, piece));
            Edge.state(what + " as TEXT up to " + after, x, () -> x.send(1, piece));
            Edge.dueDraft(what + " that throws", x, OtherEnd.many('s', draft));
        } else {
            OtherEnd.due(what + " up to " + after, x.send(2, piece), frames);
            OtherEnd.due(what + ": outLength", x.outLength(), after);
            OtherEnd.due(what + ": its first byte", x.outAt(before), frames == 1 ? 130 : 2);
            Edge.index(what + ": outAt behind it", x, () -> x.outAt(after));
        }
    }

    /** "IllegalStateException when ... OUT would have more than 400 bytes": 399, 400, 401 in one frame. */
    private static void sendUpTo400() {
        for (int draft : new int[] {1, 2, 50, 99, 100}) {
            for (int after = 398; after <= 402; after++) {
                sendUpTo("send", after - 2 - draft, draft, 0, 1);
                sendUpTo("send by 100", after - 2 - draft, draft, 100, 1);
            }
        }
    }

    /** The same in many frames, each of which has two bytes more. */
    private static void sendInManyFramesUpTo400() {
        int[][] cases = {{100, 1, 100}, {100, 50, 2}, {100, 51, 2}, {100, 99, 2}, {100, 3, 34}, {10, 3, 4}, {2, 1, 2}};
        for (int[] one : cases) {
            for (int after = 398; after <= 402; after++) {
                sendUpTo("send of " + one[0] + " by " + one[1], after - one[0] - 2 * one[2], one[0], one[1], one[2]);
            }
        }
    }

    /** The same for a draft without bytes, which is one frame. */
    private static void sendOfNothingUpTo400() {
        for (int after = 398; after <= 402; after++) {
            sendUpTo("send of nothing", after - 2, 0, 0, 1);
            sendUpTo("send of nothing by 1", after - 2, 0, 1, 1);
        }
    }

    /** "IllegalStateException when ... OUT would have more than 400 bytes", for ping. */
    private static void pingUpTo400() {
        for (int draft : new int[] {0, 1, 50, 99, 100}) {
            for (int after = 398; after <= 402; after++) {
                int before = after - 2 - draft;
                FramedTalk x = Edge.openWithOut(before);
                OtherEnd.write(x, OtherEnd.many('s', draft));
                if (after > 400) {
                    Edge.state("ping up to " + after, x, () -> x.ping());
                    Edge.dueDraft("ping that throws", x, OtherEnd.many('s', draft));
                } else {
                    x.ping();
                    OtherEnd.due("outLength behind a ping up to " + after, x.outLength(), after);
                    OtherEnd.due("its first byte", x.outAt(before), 137);
                    OtherEnd.due("its length", x.outAt(before + 1), draft);
                }
            }
        }
    }

    /** PONGs can bring OUT above 400 bytes: nothing is sent there, be it ever so short. */
    private static void above400() {
        for (int size : new int[] {399, 400, 401, 402, 469, 470}) {
            FramedTalk x = Edge.openWithOut(size);
            Edge.state("send behind " + size, x, () -> x.send(1, 0));
            Edge.state("ping behind " + size, x, () -> x.ping());
            Edge.argument("send of a wrong kind behind " + size, x, () -> x.send(3, 0));
            Edge.argument("send in wrong pieces behind " + size, x, () -> x.send(1, 101));
        }
    }

    /** OUT is what has not been taken out: behind a drop there is room again. */
    private static void roomAgainBehindADrop() {
        FramedTalk x = Edge.openWithOut(470);
        x.drop(71);
        Edge.state("send behind 399", x, () -> x.send(1, 0));
        Edge.state("ping behind 399", x, () -> x.ping());
        x.drop(1);
        OtherEnd.due("send behind 398", x.send(1, 0), 1);
        OtherEnd.due("outLength", x.outLength(), 400);
        x.drop(2);
        x.ping();
        OtherEnd.due("outLength", x.outLength(), 400);
    }

    /** "A PING, in state OPEN, when OUT has at most 470 bytes with that". */
    private static void pongUpTo470() {
        for (int content : new int[] {0, 1, 2, 68, 124, 125}) {
            for (int after = 468; after <= 472; after++) {
                int before = after - 2 - content;
                FramedTalk x = Edge.openWithOut(before);
                OtherEnd.feed(x, OtherEnd.frame(137, OtherEnd.many('q', content)));
                OtherEnd.due("outLength behind a PING up to " + after, x.outLength(), after > 470 ? before : after);
                OtherEnd.due("state", x.state(), OtherEnd.OPEN);
                if (after <= 470) {
                    OtherEnd.due("its first byte", x.outAt(before), 138);
                    OtherEnd.due("its length", x.outAt(before + 1), content);
                    OtherEnd.due("its last byte", x.outAt(after - 1), content == 0 ? 0 : 'q');
                }
            }
        }
    }

    /** One that is not answered is for nothing, and the next that has room is answered. */
    private static void pongThatHasNoRoom() {
        FramedTalk x = Edge.openWithOut(467);
        String before = Edge.picture(x);
        OtherEnd.feed(x, OtherEnd.frame(137, OtherEnd.signs("ab")));
        OtherEnd.due("seen behind a PING without room", Edge.picture(x), before);
        OtherEnd.feed(x, OtherEnd.frame(137, OtherEnd.signs("c")));
        OtherEnd.due("outLength behind one with room", x.outLength(), 470);
        OtherEnd.due("its last byte", x.outAt(469), 'c');
        x.drop(470);
        OtherEnd.due("outLength of none", x.outLength(), 0);
    }

    /** "A PING, in state OPEN": in state CLOSING it is not answered, however much room there is. */
    private static void pongOnlyWhenOpen() {
        FramedTalk x = OtherEnd.open();
        x.close(1000);
        String before = Edge.picture(x);
        OtherEnd.feed(x, OtherEnd.frame(137, new byte[0]), OtherEnd.frame(137, OtherEnd.many('q', 125)));
        OtherEnd.due("seen behind PINGs when CLOSING", Edge.picture(x), before);
    }

    /** "not masked, without flags, last unless it is told otherwise, its length as short as it can be". */
    private static void lengthsThatAreSaid() {
        for (int size : new int[] {0, 1, 99, 100}) {
            byte[] draft = OtherEnd.many('s', size);
            FramedTalk x = Edge.openWithDraft(draft);
            x.send(1, 0);
            dueFrame("a TEXT", x, 129, draft);
            x.send(2, 0);
            dueFrame("BYTES", x, 130, draft);
            x.ping();
            dueFrame("a PING", x, 137, draft);
        }
        for (int size : new int[] {0, 1, 124, 125}) {
            byte[] content = OtherEnd.many('q', size);
            FramedTalk x = OtherEnd.open();
            OtherEnd.feed(x, OtherEnd.frame(137, content));
            dueFrame("a PONG", x, 138, content);
        }
    }

    private static void dueFrame(String what, FramedTalk x, int first, byte[] content) {
        byte[] row = OtherEnd.join(OtherEnd.bytes(first, content.length), content);
        OtherEnd.due(what + " of " + content.length, OtherEnd.out(x), OtherEnd.asSigns(row));
        x.drop(x.outLength());
    }
}
