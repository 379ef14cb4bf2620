/** The edges of the draft and of send; over each test stand the document's words that it is for. */
public final class DraftEdgeTest {
    private static final int[] FAR_OFF = {Integer.MIN_VALUE, Integer.MIN_VALUE + 1, -8, -1, Integer.MAX_VALUE - 1,
        Integer.MAX_VALUE};

    public static void main(String[] args) {
        atFirstNone();
        numberOfWrittenBytes();
        lowestByteFirst();
        moreThan100();
        refusedWriteLeavesTheDraft();
        writeInEachState();
        clearOfNoneAndOfAll();
        draftStays();
        kindsOfSend();
        sizesOfSend();
        framesOfSend();
        wholeNumberOfFrames();
        draftWithoutBytes();
        sizeOfNone();
        textOfSend();
        statesOfSend();
        statesOfPing();
        OtherEnd.end();
    }

    /** "a DRAFT of at most 100 bytes, at first none". */
    private static void atFirstNone() {
        Edge.dueDraft("at first", OtherEnd.open(), new byte[0]);
        Edge.dueRoom("at first", new FramedTalk(), 100);
    }

    /** "False, refused, when n is not 1 .. 8". */
    private static void numberOfWrittenBytes() {
        for (int n = -2; n <= 10; n++) {
            int count = n;
            FramedTalk x = Edge.openWithDraft(OtherEnd.signs("d"));
            byte[] want = OtherEnd.signs("d" + "w".repeat(n >= 1 && n <= 8 ? n : 0));
            if (n >= 1 && n <= 8) {
                OtherEnd.due("write of " + n, x.write(0x7777777777777777L, n), true);
            } else {
                Edge.refused("write of " + n, x, () -> x.write(0x7777777777777777L, count));
            }
            Edge.dueDraft("write of " + n, x, want);
        }
        FramedTalk x = Edge.openWithDraft(OtherEnd.signs("d"));
        for (int n : FAR_OFF) {
            Edge.refused("write of " + n, x, () -> x.write(-1, n));
        }
        Edge.dueDraft("refused writes", x, OtherEnd.signs("d"));
    }

    /** "the lowest one of w first"; those above the n are for nothing. */
    private static void lowestByteFirst() {
        int[] row = {0, 1, 127, 128, 129, 254, 255, 200};
        long w = OtherEnd.word(OtherEnd.bytes(row), 0, 8);
        for (int n = 1; n <= 8; n++) {
            FramedTalk x = OtherEnd.open();
            OtherEnd.due("write of " + n, x.write(w, n), true);
            OtherEnd.due("write of " + n + " more", x.write(~w, n), true);
            x.send(2, 0);
            OtherEnd.due("outLength", x.outLength(), 2 + 2 * n);
            for (int i = 0; i < n; i++) {
                OtherEnd.due("byte " + i + " of " + n, x.outAt(2 + i), row[i]);
                OtherEnd.due("byte " + i + " of " + n + " more", x.outAt(2 + n + i), 255 - row[i]);
            }
        }
    }

    /** "or it would have more than 100": 99, 100 and 101 with every n. */
    private static void moreThan100() {
        for (int n = 1; n <= 8; n++) {
            for (int after = 99; after <= 100 + n; after++) {
                byte[] draft = OtherEnd.many('d', after - n);
                FramedTalk x = Edge.openWithDraft(draft);
                int count = n;
                if (after > 100) {
                    Edge.refused("write up to " + after, x, () -> x.write(0x7777777777777777L, count));
                    Edge.dueDraft("write up to " + after, x, draft);
                } else {
                    OtherEnd.due("write up to " + after, x.write(0x7777777777777777L, n), true);
                    Edge.dueDraft("write up to " + after, x, OtherEnd.join(draft, OtherEnd.many('w', n)));
                }
            }
        }
    }

    /** "is refused, changes nothing": what had no room does not come later, and less has room still. */
    private static void refusedWriteLeavesTheDraft() {
        byte[] draft = OtherEnd.many('d', 97);
        FramedTalk x = Edge.openWithDraft(draft);
        for (int n = 4; n <= 8; n++) {
            int count = n;
            Edge.refused("write of " + n + " behind 97", x, () -> x.write(-1, count));
        }
        OtherEnd.due("write of 3 behind 97", x.write(0x636261, 3), true);
        Edge.refused("write of 1 behind 100", x, () -> x.write(-1, 1));
        Edge.dueDraft("at last", x, OtherEnd.join(draft, OtherEnd.signs("abc")));
    }

    /** No state is named for write and clear: both do what they do in each. */
    private static void writeInEachState() {
        for (FramedTalk x : Edge.notOpen()) {
            Edge.dueRoom("not OPEN", x, 100);
            String before = Edge.picture(x);
            x.clear();
            OtherEnd.due("seen behind clear", Edge.picture(x), before);
            Edge.dueRoom("cleared when not OPEN", x, 100);
        }
        FramedTalk asked = new FramedTalk();
        OtherEnd.write(asked, OtherEnd.signs("from before"));
        OtherEnd.feed(asked, OtherEnd.signs(OtherEnd.goodRequest(OtherEnd.KEY)));
        Edge.dueDraft("written when ASKED", asked, OtherEnd.signs("from before"));
    }

    /** "The draft has no bytes": cleared when it has none, one and 100. */
    private static void clearOfNoneAndOfAll() {
        for (int size : new int[] {0, 1, 99, 100}) {
            FramedTalk x = Edge.openWithDraft(OtherEnd.many('d', size));
            x.clear();
            Edge.dueDraft("cleared of " + size, x, new byte[0]);
            x.clear();
            Edge.dueRoom("cleared of " + size + " again", x, 100);
            Edge.dueDraft("written anew", x, OtherEnd.many('w', 100));
        }
    }

    /** "the draft (which stays, here and below)". */
    private static void draftStays() {
        byte[] draft = OtherEnd.signs("stays");
        FramedTalk x = Edge.openWithDraft(draft);
        x.send(1, 0);
        Edge.dueDraft("behind send", x, draft);
        x.send(2, 2);
        Edge.dueDraft("behind send by 2", x, draft);
        x.ping();
        Edge.dueDraft("behind ping", x, draft);
        x.close(1000);
        Edge.dueRoom("behind close", x, 95);
    }

    /** "IllegalArgumentException when kind is not 1 or 2". */
    private static void kindsOfSend() {
        FramedTalk x = Edge.openWithDraft(OtherEnd.signs("d"));
        for (int kind : new int[] {0, 3, 8, 9, 10, 129, 130, 257, 258}) {
            Edge.argument("send of kind " + kind, x, () -> x.send(kind, 0));
        }
        for (int kind : FAR_OFF) {
            Edge.argument("send of kind " + kind, x, () -> x.send(kind, 0));
        }
        OtherEnd.due("send of kind 1", x.send(1, 0), 1);
        OtherEnd.due("send of kind 2", x.send(2, 0), 1);
        OtherEnd.dueOut("both", x, 129, 1, 'd', 130, 1, 'd');
    }

    /** "size is not 0 .. 100". */
    private static void sizesOfSend() {
        for (int kind = 1; kind <= 2; kind++) {
            int one = kind;
            FramedTalk x = Edge.openWithDraft(OtherEnd.signs("d"));
            for (int size : new int[] {101, 102, 255, 256}) {
                Edge.argument("send by " + size, x, () -> x.send(one, size));
            }
            for (int size : FAR_OFF) {
                Edge.argument("send by " + size, x, () -> x.send(one, size));
            }
            for (int size : new int[] {0, 1, 99, 100}) {
                OtherEnd.due("send by " + size, x.send(one, size), 1);
            }
            OtherEnd.due("outLength", x.outLength(), 12);
        }
    }

    /** The frames that are due for a draft in pieces, written out by hand from the document's words. */
    private static String frames(int kind, byte[] draft, int size) {
        StringBuilder all = new StringBuilder();
        int from = 0;
        do {
            int to = size == 0 ? draft.length : Math.min(draft.length, from + size);
            int first = (from == 0 ? kind : OtherEnd.MORE) + (to == draft.length ? OtherEnd.LAST : 0);
            all.append((char) first).append((char) (to - from));
            for (int i = from; i < to; i++) {
                all.append((char) (draft[i] & 255));
            }
            from = to;
        } while (from < draft.length);
        return all.toString();
    }

    private static void dueFrames(int kind, int draftSize, int size, int count) {
        byte[] draft = new byte[draftSize];
        for (int i = 0; i < draftSize; i++) {
            draft[i] = (byte) ('!' + i % 90);
        }
        FramedTalk x = Edge.openWithDraft(draft);
        String what = draftSize + " bytes by " + size;
        OtherEnd.due("frames of " + what, x.send(kind, size), count);
        OtherEnd.due("OUT of " + what, OtherEnd.out(x), frames(kind, draft, size));
    }

    /** "in frames of size bytes each (the last one may have fewer": just below, at and above each whole number. */
    private static void framesOfSend() {
        for (int size : new int[] {1, 2, 3, 7, 49, 50, 99, 100}) {
            for (int frames = 1; frames * size <= 100; frames++) {
                int exact = frames * size;
                dueFrames(1 + frames % 2, exact, size, frames);
                if (size > 1) {
                    dueFrames(1 + frames % 2, exact - 1, size, frames);
                }
                if (exact < 100) {
                    dueFrames(1 + frames % 2, exact + 1, size, frames + 1);
                }
            }
        }
    }

    /** "the first of the kind, the others MORE, the last of them last": one, two and three frames. */
    private static void wholeNumberOfFrames() {
        FramedTalk x = Edge.openWithDraft(OtherEnd.signs("abcd"));
        x.send(1, 4);
        OtherEnd.dueOut("one frame", x, 129, 4, 'a', 'b', 'c', 'd');
        x.drop(6);
        x.send(1, 2);
        OtherEnd.dueOut("two frames", x, 1, 2, 'a', 'b', 128, 2, 'c', 'd');
        x.drop(8);
        x.send(2, 3);
        OtherEnd.dueOut("two frames, the last with fewer", x, 2, 3, 'a', 'b', 'c', 128, 1, 'd');
        x.drop(8);
        x.send(2, 1);
        OtherEnd.dueOut("four frames", x, 2, 1, 'a', 0, 1, 'b', 0, 1, 'c', 128, 1, 'd');
    }

    /** "a draft without bytes is one frame". */
    private static void draftWithoutBytes() {
        for (int kind = 1; kind <= 2; kind++) {
            for (int size : new int[] {0, 1, 2, 99, 100}) {
                dueFrames(kind, 0, size, 1);
            }
        }
    }

    /** "size 0: all in one frame". */
    private static void sizeOfNone() {
        for (int draft : new int[] {0, 1, 2, 99, 100}) {
            dueFrames(1, draft, 0, 1);
            dueFrames(2, draft, 0, 1);
        }
    }

    /** "or the kind is 1 and the draft is no text of characters"; whole it may be cut within one. */
    private static void textOfSend() {
        FramedTalk x = Edge.openWithDraft(OtherEnd.bytes('a', 226, 130));
        for (int size : new int[] {0, 1, 2, 3, 100}) {
            Edge.argument("send of half a character by " + size, x, () -> x.send(1, size));
            Edge.dueDraft("behind a send that throws", x, OtherEnd.bytes('a', 226, 130));
        }
        OtherEnd.due("send as BYTES", x.send(2, 0), 1);
        x.drop(5);
        OtherEnd.due("write of the rest", x.write(172, 1), true);
        OtherEnd.due("send of the whole one by 2", x.send(1, 2), 2);
        OtherEnd.dueOut("cut within it", x, 1, 2, 'a', 226, 128, 2, 130, 172);
        FramedTalk full = Edge.openWithDraft(OtherEnd.join(OtherEnd.many('a', 98), OtherEnd.bytes(195, 169)));
        OtherEnd.due("a character at the draft's very end", full.send(1, 0), 1);
        FramedTalk half = Edge.openWithDraft(OtherEnd.join(OtherEnd.many('a', 99), OtherEnd.bytes(195)));
        Edge.argument("half a one at the draft's very end", half, () -> half.send(1, 0));
    }

    /** "IllegalStateException when the state is not OPEN"; the other exception is named first. */
    private static void statesOfSend() {
        for (FramedTalk x : Edge.notOpen()) {
            Edge.state("send of a TEXT", x, () -> x.send(1, 0));
            Edge.state("send of BYTES", x, () -> x.send(2, 100));
            Edge.argument("send of kind 0", x, () -> x.send(0, 0));
            Edge.argument("send of kind 3", x, () -> x.send(3, 0));
            Edge.argument("send by -1", x, () -> x.send(1, -1));
            Edge.argument("send by 101", x, () -> x.send(2, 101));
            OtherEnd.due("write", x.write(128, 1), true);
            Edge.argument("send of no text", x, () -> x.send(1, 0));
            Edge.state("send of it as BYTES", x, () -> x.send(2, 0));
        }
    }

    /** "IllegalStateException when the state is not OPEN", for ping. */
    private static void statesOfPing() {
        for (FramedTalk x : Edge.notOpen()) {
            Edge.state("ping", x, () -> x.ping());
            OtherEnd.due("write", x.write(128, 1), true);
            Edge.state("ping with a draft", x, () -> x.ping());
        }
        FramedTalk open = OtherEnd.open();
        open.ping();
        OtherEnd.dueOut("ping when OPEN", open, 137, 0);
    }
}
