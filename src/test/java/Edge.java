import java.util.Arrays;
import java.util.NoSuchElementException;
import java.util.function.BooleanSupplier;

/** What the edge tests share: the byte at which a talk ends, an OUT of a size, and calls that must change nothing. */
final class Edge {
    private static final int LONGEST_PONG = 127;
    // So many bytes of a row are looked at that an object stays within the 512 calls that it is promised for.
    private static final int LOOKS = 16;

    private Edge() {
    }

    /** The talk ends with the code at the last byte of these, and not before; nothing is said of it when CLOSING. */
    static void violates(String what, int code, byte[]... rows) {
        byte[] row = OtherEnd.join(rows);
        FramedTalk x = OtherEnd.open();
        int delivered = OtherEnd.feed(x, Arrays.copyOf(row, row.length - 1));
        OtherEnd.due(what + ": state before", x.state(), OtherEnd.OPEN);
        x.drop(x.outLength());
        OtherEnd.due(what + ": feed", x.feed(row[row.length - 1], 1), 0);
        OtherEnd.dueEnd(what, x, code);
        OtherEnd.due(what + ": delivered", x.delivered(), delivered);
        FramedTalk closing = OtherEnd.open();
        closing.close(1000);
        OtherEnd.feed(closing, Arrays.copyOf(row, row.length - 1));
        OtherEnd.due(what + ", closing: state before", closing.state(), OtherEnd.CLOSING);
        OtherEnd.feed(closing, Arrays.copyOfRange(row, row.length - 1, row.length));
        OtherEnd.due(what + ", closing: state", closing.state(), OtherEnd.CLOSED);
        OtherEnd.due(what + ", closing: endCode", closing.endCode(), code);
        OtherEnd.due(what + ", closing: outLength", closing.outLength(), 4);
    }

    static FramedTalk stands(String what, byte[]... rows) {
        FramedTalk x = OtherEnd.open();
        OtherEnd.feed(x, rows);
        OtherEnd.due(what + ": state", x.state(), OtherEnd.OPEN);
        OtherEnd.due(what + ": endCode", x.endCode(), 0);
        return x;
    }

    /** An open talk with so many bytes in OUT (none, or 2 .. 470), all PONGs, and no draft. */
    static FramedTalk openWithOut(int size) {
        FramedTalk x = OtherEnd.open();
        int left = size;
        while (left > 0) {
            // A PONG has two bytes at least, so that none may leave a single one over.
            int next = left <= LONGEST_PONG ? left : Math.min(LONGEST_PONG, left - 2);
            OtherEnd.feed(x, OtherEnd.frame(OtherEnd.LAST + OtherEnd.PING, OtherEnd.many('p', next - 2)));
            left -= next;
        }
        OtherEnd.due("OUT filled", x.outLength(), size);
        return x;
    }

    static FramedTalk openWithDraft(byte[] draft) {
        FramedTalk x = OtherEnd.open();
        OtherEnd.write(x, draft);
        return x;
    }

    /** One talk in each state, the CLOSED ones in each way that leads there; all without a draft. */
    static FramedTalk[] notOpen() {
        FramedTalk closing = OtherEnd.open();
        closing.close(1000);
        FramedTalk refused = new FramedTalk();
        OtherEnd.feed(refused, OtherEnd.signs("\r\n\r\n"));
        FramedTalk closed = OtherEnd.open();
        OtherEnd.feed(closed, OtherEnd.frame(136, new byte[0]));
        FramedTalk violated = OtherEnd.open();
        OtherEnd.feed(violated, OtherEnd.bytes(255));
        FramedTalk answered = OtherEnd.open();
        answered.close(3000);
        OtherEnd.feed(answered, OtherEnd.closeFrame(3000, new byte[0]));
        return new FramedTalk[] {new FramedTalk(), closing, refused, closed, violated, answered};
    }

    /** All that can be seen of a talk without changing it, as a text. */
    static String picture(FramedTalk x) {
        StringBuilder all = new StringBuilder();
        all.append("state ").append(x.state()).append(", end ").append(x.endCode());
        all.append(", delivered ").append(x.delivered()).append(", pongs ").append(x.pongs());
        int size = x.outLength();
        all.append(", OUT ").append(size).append(':');
        for (int i = 0; i < size; i = next(i, size)) {
            all.append(' ').append(x.outAt(i));
        }
        int waiting = x.messages();
        for (int k = 0; k < waiting; k++) {
            int length = x.length(k);
            all.append(", kind ").append(x.kind(k)).append(" of ").append(length).append(':');
            for (int i = 0; i < length; i = next(i, length)) {
                all.append(' ').append(x.byteAt(k, i));
            }
        }
        return all.toString();
    }

    // The last one is always looked at.
    private static int next(int i, int size) {
        int step = 1 + size / LOOKS;
        return i < size - 1 ? Math.min(i + step, size - 1) : size;
    }

    private static void throwsUnchanged(String what, Class<? extends Exception> want, FramedTalk x, OtherEnd.Call call) {
        String before = picture(x);
        OtherEnd.dueThrow(what, want, call);
        OtherEnd.due(what + ": seen behind it", picture(x), before);
    }

    static void argument(String what, FramedTalk x, OtherEnd.Call call) {
        throwsUnchanged(what, IllegalArgumentException.class, x, call);
    }

    static void state(String what, FramedTalk x, OtherEnd.Call call) {
        throwsUnchanged(what, IllegalStateException.class, x, call);
    }

    static void index(String what, FramedTalk x, OtherEnd.Call call) {
        throwsUnchanged(what, IndexOutOfBoundsException.class, x, call);
    }

    static void element(String what, FramedTalk x, OtherEnd.Call call) {
        throwsUnchanged(what, NoSuchElementException.class, x, call);
    }

    static void refused(String what, FramedTalk x, BooleanSupplier call) {
        String before = picture(x);
        OtherEnd.due(what, call.getAsBoolean(), false);
        OtherEnd.due(what + ": seen behind it", picture(x), before);
    }

    /** The draft of an open talk, as this end says it in a PING; OUT is emptied. */
    static void dueDraft(String what, FramedTalk x, byte[] want) {
        x.drop(x.outLength());
        x.ping();
        byte[] said = OtherEnd.join(OtherEnd.bytes(137, want.length), want);
        OtherEnd.due(what + ": the draft", OtherEnd.out(x), OtherEnd.asSigns(said));
        x.drop(x.outLength());
    }

    /** So many bytes, and not one more, can be written behind the draft. */
    static void dueRoom(String what, FramedTalk x, int room) {
        for (int i = 0; i < room; i++) {
            OtherEnd.due(what + ": write of byte " + i + " in a room of " + room, x.write('w', 1), true);
        }
        OtherEnd.due(what + ": write behind a room of " + room, x.write('w', 1), false);
    }
}
