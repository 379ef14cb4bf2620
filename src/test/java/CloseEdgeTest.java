import java.util.Arrays;
import java.util.Set;
import java.util.TreeSet;

/** The edges of a CLOSE that comes in, and of close; over each test stand the document's words that it is for. */
public final class CloseEdgeTest {
    private static final byte[] NONE = {};

    public static void main(String[] args) {
        numberOfBytes();
        everyEdgeOfTheCodes();
        codeInTwoBytes();
        wrongCodeBeforeWrongText();
        reasonFoundAtTheLastByte();
        answeredInEachState();
        endCodeOfNone();
        behindAClose();
        codesOfClose();
        codesAboveTwoBytes();
        draftOfClose();
        draftThatIsNoText();
        outOfClose();
        statesOfClose();
        OtherEnd.end();
    }

    private static boolean mayStand(int code) {
        return code >= 1000 && code <= 1003 || code >= 1007 && code <= 1011 || code >= 3000 && code <= 4999;
    }

    /** The codes at each edge of "1000 .. 1003, 1007 .. 1011 or 3000 .. 4999", and some far off. */
    private static Set<Integer> codes() {
        Set<Integer> all = new TreeSet<>(Arrays.asList(0, 1, 3, 232, 255, 256, 999, 2000, 32767, 32768, 59395, 65535));
        for (int edge : new int[] {1000, 1003, 1007, 1011, 3000, 4999}) {
            for (int code = edge - 3; code <= edge + 3; code++) {
                all.add(code);
            }
        }
        for (int code : new int[] {1000, 1003, 1007, 1011, 3000, 4999}) {
            // The same lower byte, but another higher one.
            all.add(code + 256);
            all.add(code - 256);
        }
        return all;
    }

    /** "its content is one byte: 1002"; none, two, three and up to 125 may be. */
    private static void numberOfBytes() {
        FramedTalk none = OtherEnd.open();
        OtherEnd.feed(none, OtherEnd.frame(138, OtherEnd.bytes(3, 232)), OtherEnd.frame(136, NONE));
        OtherEnd.due("a CLOSE of none: endCode", none.endCode(), 1005);
        OtherEnd.dueOut("a CLOSE of none", none, 136, 0);
        for (int only : new int[] {0, 3, 'a', 128, 255}) {
            Edge.violates("a CLOSE of one byte", 1002, OtherEnd.frame(136, OtherEnd.bytes(only)));
        }
        // The second byte of a short one before is not the second byte of this one.
        Edge.violates("a CLOSE of one byte behind a PONG of two", 1002,
            OtherEnd.frame(138, OtherEnd.bytes(3, 232)), OtherEnd.frame(136, OtherEnd.bytes(3)));
        for (int reason : new int[] {0, 1, 2, 122, 123}) {
            FramedTalk x = OtherEnd.open();
            OtherEnd.feed(x, OtherEnd.closeFrame(1000, OtherEnd.many('r', reason)));
            OtherEnd.dueEnd("a CLOSE of " + (2 + reason), x, 1000);
        }
        Edge.violates("a CLOSE of 126", 1002, OtherEnd.bytes(136, 128 + 126));
    }

    /** "are not 1000 .. 1003, 1007 .. 1011 or 3000 .. 4999: 1002". */
    private static void everyEdgeOfTheCodes() {
        for (int code : codes()) {
            byte[] row = OtherEnd.closeFrame(code, NONE);
            if (mayStand(code)) {
                FramedTalk x = Edge.stands(code + " before its last byte", Arrays.copyOf(row, row.length - 1));
                x.feed(row[row.length - 1], 1);
                OtherEnd.dueEnd("CLOSE with " + code, x, code);
            } else {
                Edge.violates("CLOSE with " + code, 1002, row);
            }
        }
    }

    /** "the first two bytes, as a number, the higher one first". */
    private static void codeInTwoBytes() {
        Edge.violates("1000 with the lower one first", 1002, OtherEnd.frame(136, OtherEnd.bytes(232, 3)));
        FramedTalk x = OtherEnd.open();
        OtherEnd.feed(x, OtherEnd.frame(136, OtherEnd.bytes(3, 232)));
        OtherEnd.dueEnd("1000", x, 1000);
        FramedTalk y = OtherEnd.open();
        OtherEnd.feed(y, OtherEnd.frame(136, OtherEnd.bytes(15, 15)));
        OtherEnd.dueEnd("3855, either way", y, 3855);
    }

    /** "1002; the others are not a text of characters: 1007": what is both is 1002. */
    private static void wrongCodeBeforeWrongText() {
        for (int code : codes()) {
            Edge.violates(code + " and no text", mayStand(code) ? 1007 : 1002,
                OtherEnd.closeFrame(code, OtherEnd.bytes(255)));
        }
    }

    /** "The last byte of a CLOSE": a wrong code or a wrong text is not found before. */
    private static void reasonFoundAtTheLastByte() {
        Edge.violates("no text at its first byte", 1007,
            OtherEnd.closeFrame(1000, OtherEnd.join(OtherEnd.bytes(255), OtherEnd.many('r', 122))));
        Edge.violates("half a character", 1007, OtherEnd.closeFrame(1000, OtherEnd.bytes('r', 240, 159, 146)));
        Edge.violates("a wrong code at first", 1002, OtherEnd.closeFrame(999, OtherEnd.many('r', 123)));
        FramedTalk x = OtherEnd.open();
        OtherEnd.feed(x, OtherEnd.closeFrame(1000, OtherEnd.bytes('r', 240, 159, 146, 150)));
        OtherEnd.dueEnd("a whole character", x, 1000);
        // A character that a message has begun does not go on in the CLOSE.
        FramedTalk y = OtherEnd.open();
        OtherEnd.feed(y, OtherEnd.frame(1, OtherEnd.bytes(240, 159)), OtherEnd.closeFrame(1000, OtherEnd.signs("r")));
        OtherEnd.dueEnd("within a character of a message", y, 1000);
    }

    /** "in state OPEN this end says a CLOSE with the same first two bytes (none if there are none)". */
    private static void answeredInEachState() {
        FramedTalk open = OtherEnd.open();
        OtherEnd.feed(open, OtherEnd.closeFrame(3456, OtherEnd.signs("reason")));
        OtherEnd.dueEnd("OPEN", open, 3456);
        FramedTalk closing = OtherEnd.open();
        closing.close(1001);
        OtherEnd.feed(closing, OtherEnd.closeFrame(3456, OtherEnd.signs("reason")));
        OtherEnd.due("CLOSING: state", closing.state(), OtherEnd.CLOSED);
        OtherEnd.due("CLOSING: endCode", closing.endCode(), 3456);
        OtherEnd.dueOut("CLOSING", closing, 136, 2, 3, 233);
    }

    /** "1005 if there is none", in state CLOSING too; "0 as long as there is none". */
    private static void endCodeOfNone() {
        FramedTalk x = OtherEnd.open();
        OtherEnd.due("endCode when OPEN", x.endCode(), 0);
        x.close(4000);
        OtherEnd.due("endCode when CLOSING", x.endCode(), 0);
        OtherEnd.feed(x, OtherEnd.bytes(136, 128, 1, 2, 3));
        OtherEnd.due("endCode before the last byte", x.endCode(), 0);
        x.feed(4, 1);
        OtherEnd.due("endCode behind a CLOSE of none", x.endCode(), 1005);
        OtherEnd.due("state behind it", x.state(), OtherEnd.CLOSED);
        OtherEnd.dueOut("behind it", x, 136, 2, 15, 160);
        FramedTalk refused = new FramedTalk();
        OtherEnd.due("endCode when ASKED", refused.endCode(), 0);
        OtherEnd.feed(refused, OtherEnd.signs("\r\n\r\n"));
        OtherEnd.due("endCode of a bad request", refused.endCode(), 0);
        FramedTalk old = new FramedTalk();
        OtherEnd.feed(old, OtherEnd.signs(OtherEnd.request(Asker.with("Sec-WebSocket-Version: 12"))));
        OtherEnd.due("endCode of an old request", old.endCode(), 0);
    }

    /** "those that come when the state is CLOSED (by one before) are lost": here by a CLOSE. */
    private static void behindAClose() {
        FramedTalk x = OtherEnd.open();
        OtherEnd.feed(x, OtherEnd.bytes(136, 128, 0, 0, 0));
        OtherEnd.due("the last byte, and a message", x.feed(0x00000000808100L, 7), 0);
        OtherEnd.due("messages", x.messages(), 0);
        OtherEnd.due("endCode", x.endCode(), 1005);
        OtherEnd.dueOut("behind a CLOSE", x, 136, 0);
        Edge.state("feed behind a CLOSE", x, () -> x.feed(0, 1));
    }

    /** "IllegalArgumentException when the code is none that may stand in a CLOSE". */
    private static void codesOfClose() {
        for (int code : codes()) {
            FramedTalk x = OtherEnd.open();
            if (mayStand(code)) {
                x.close(code);
                OtherEnd.due("state behind close(" + code + ")", x.state(), OtherEnd.CLOSING);
                OtherEnd.dueOut("close(" + code + ")", x, 136, 2, code >> 8, code & 255);
            } else {
                Edge.argument("close(" + code + ")", x, () -> x.close(code));
            }
        }
    }

    /** The same for numbers that only two of their bytes would let stand. */
    private static void codesAboveTwoBytes() {
        for (int code : new int[] {65536, 65536 + 1000, 65536 + 4999, -1, -1000, 1000 - 65536, Integer.MAX_VALUE,
            Integer.MIN_VALUE, Integer.MIN_VALUE + 1000}) {
            FramedTalk x = OtherEnd.open();
            Edge.argument("close(" + code + ")", x, () -> x.close(code));
        }
    }

    /** "and the draft behind it": of none, one, and up to 100 bytes; it stays. */
    private static void draftOfClose() {
        for (int size : new int[] {0, 1, 2, 99, 100}) {
            byte[] draft = OtherEnd.many('d', size);
            FramedTalk x = Edge.openWithDraft(draft);
            x.close(1000);
            byte[] said = OtherEnd.join(OtherEnd.bytes(136, 2 + size, 3, 232), draft);
            OtherEnd.due("close with a draft of " + size, OtherEnd.out(x), OtherEnd.asSigns(said));
            Edge.dueRoom("behind close", x, 100 - size);
        }
    }

    /** "or the draft is no text of characters": with a code that may stand and with one that may not. */
    private static void draftThatIsNoText() {
        for (byte[] draft : new byte[][] {{-1}, {'a', -61}, {-128}, {-30, -126}}) {
            FramedTalk x = Edge.openWithDraft(draft);
            Edge.argument("close with no text", x, () -> x.close(1000));
            Edge.argument("close with no text and no code", x, () -> x.close(999));
            Edge.dueDraft("behind a close that throws", x, draft);
            OtherEnd.due("state", x.state(), OtherEnd.OPEN);
        }
    }

    /** "(however much OUT has)". */
    private static void outOfClose() {
        for (int size : new int[] {0, 2, 295, 296, 297, 298, 366, 367, 396, 397, 400, 401, 466, 467, 469, 470}) {
            FramedTalk x = Edge.openWithOut(size);
            OtherEnd.write(x, OtherEnd.many('d', 100));
            x.close(1011);
            OtherEnd.due("outLength of " + size + " and a close", x.outLength(), size + 104);
            OtherEnd.due("its first byte", x.outAt(size), 136);
            OtherEnd.due("its length", x.outAt(size + 1), 102);
            OtherEnd.due("its last byte", x.outAt(size + 103), 'd');
            Edge.index("outAt behind it", x, () -> x.outAt(size + 104));
        }
    }

    /** "IllegalStateException when the state is not OPEN"; the other exception is named first. */
    private static void statesOfClose() {
        for (FramedTalk x : Edge.notOpen()) {
            Edge.state("close", x, () -> x.close(1000));
            Edge.argument("close with no code", x, () -> x.close(1004));
            OtherEnd.due("write", x.write(255, 1), true);
            Edge.argument("close with no text", x, () -> x.close(1000));
            x.clear();
            Edge.state("close with a text again", x, () -> x.close(4999));
        }
    }
}
