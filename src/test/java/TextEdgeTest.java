import java.util.Arrays;

/** The edges of a text of characters, wherever one is looked at; over each test stand the document's words for it. */
public final class TextEdgeTest {
    public static void main(String[] args) {
        oneByte();
        twoBytes();
        threeBytesFrom224();
        threeBytes();
        threeBytesFrom237();
        fourBytesFrom240();
        fourBytes();
        fourBytesFrom244();
        noBeginning();
        moreOnes();
        anyRowOf();
        noBytes();
        wholeAtTheLastFrame();
        wholeAtTheMask();
        cutByFrames();
        startsAnewInEachMessage();
        notLookedAtElsewhere();
        OtherEnd.end();
    }

    /** All of these bytes are a text: in a message, in a CLOSE, in the draft. */
    private static void text(int... row) {
        String what = Arrays.toString(row);
        byte[] content = OtherEnd.bytes(row);
        FramedTalk x = OtherEnd.open();
        OtherEnd.due(what + " delivered", OtherEnd.feed(x, OtherEnd.frame(129, content)), 1);
        OtherEnd.due(what + " as a message", OtherEnd.message(x, 0), OtherEnd.asSigns(content));
        FramedTalk closed = OtherEnd.open();
        OtherEnd.feed(closed, OtherEnd.closeFrame(1000, content));
        OtherEnd.dueEnd(what + " in a CLOSE", closed, 1000);
        FramedTalk sent = Edge.openWithDraft(content);
        OtherEnd.due(what + " sent", sent.send(1, 0), 1);
        sent.close(1000);
        OtherEnd.due(what + " in close", sent.state(), OtherEnd.CLOSING);
    }

    /** The last of these bytes can't stand there, those before it can. */
    private static void wrong(int... row) {
        byte[] content = OtherEnd.bytes(row);
        // More bytes are due in the frame, so that it is the byte itself at which it is found.
        byte[] head = OtherEnd.join(OtherEnd.head(129, content.length + 3), new byte[4]);
        Edge.violates(Arrays.toString(row) + " in a TEXT", 1007, head, content);
        noText(row);
    }

    /** These bytes are the beginning of a text, but the last character is not whole. */
    private static void half(int... row) {
        byte[] content = OtherEnd.bytes(row);
        Edge.violates(Arrays.toString(row) + " at the end of a TEXT", 1007, OtherEnd.frame(129, content));
        Edge.stands(Arrays.toString(row) + " not at the end", OtherEnd.frame(1, content));
        noText(row);
    }

    private static void noText(int... row) {
        String what = Arrays.toString(row);
        byte[] content = OtherEnd.bytes(row);
        Edge.violates(what + " in a CLOSE", 1007, OtherEnd.closeFrame(1000, content));
        FramedTalk x = Edge.openWithDraft(content);
        Edge.argument(what + " sent", x, () -> x.send(1, 0));
        Edge.argument(what + " in close", x, () -> x.close(1000));
        Edge.dueDraft(what, x, content);
    }

    /** The first byte, then the second at the edges of its range, then MOREs; and each of them a half one before. */
    private static void character(int first, int lowest, int highest, int mores) {
        half(first);
        wrong(first, lowest - 1);
        wrong(first, highest + 1);
        wrong(first, 0);
        wrong(first, 255);
        for (int second : new int[] {lowest, lowest + 1, highest - 1, highest}) {
            goOn(mores, first, second);
        }
    }

    private static void goOn(int mores, int... row) {
        if (mores == 0) {
            text(row);
            return;
        }
        half(row);
        wrong(and(row, 127));
        wrong(and(row, 192));
        goOn(mores - 1, and(row, 128));
        goOn(mores - 1, and(row, 191));
    }

    private static int[] and(int[] row, int next) {
        int[] longer = Arrays.copyOf(row, row.length + 1);
        longer[row.length] = next;
        return longer;
    }

    /** "0 .. 127". */
    private static void oneByte() {
        for (int b : new int[] {0, 1, 9, 10, 13, 32, 126, 127}) {
            text(b);
        }
        wrong(128);
    }

    /** "or 194 .. 223 and one more". */
    private static void twoBytes() {
        for (int first : new int[] {194, 195, 222, 223}) {
            character(first, 128, 191, 0);
        }
        wrong(192);
        wrong(193);
    }

    /** "224 and 160 .. 191 and one more". */
    private static void threeBytesFrom224() {
        character(224, 160, 191, 1);
        wrong(224, 128);
    }

    /** "225 .. 236, 238 or 239 and two more". */
    private static void threeBytes() {
        for (int first : new int[] {225, 226, 235, 236, 238, 239}) {
            character(first, 128, 191, 1);
        }
    }

    /** "237 and 128 .. 159 and one more". */
    private static void threeBytesFrom237() {
        character(237, 128, 159, 1);
        wrong(237, 191);
    }

    /** "240 and 144 .. 191 and two more". */
    private static void fourBytesFrom240() {
        character(240, 144, 191, 2);
        wrong(240, 128);
    }

    /** "241 .. 243 and three more". */
    private static void fourBytes() {
        for (int first = 241; first <= 243; first++) {
            character(first, 128, 191, 2);
        }
    }

    /** "244 and 128 .. 143 and two more". */
    private static void fourBytesFrom244() {
        character(244, 128, 143, 2);
        wrong(244, 191);
    }

    /** What stands in none of the ranges begins no character. */
    private static void noBeginning() {
        for (int first = 128; first <= 193; first++) {
            wrong(first);
        }
        for (int first = 245; first <= 255; first++) {
            wrong(first);
        }
        wrong('a', 128);
        wrong(195, 169, 191);
        wrong(226, 130, 172, 128);
        wrong(240, 159, 146, 150, 128);
    }

    /** "MORE ones are 128 .. 191": every byte behind one that begins a character. */
    private static void moreOnes() {
        for (int more = 0; more < 256; more++) {
            if (more >= 128 && more <= 191) {
                text(200, more);
                text(230, 128, more);
                text(242, 128, 191, more);
            } else {
                wrong(200, more);
                wrong(230, more);
                wrong(230, 191, more);
                wrong(242, more);
                wrong(242, 128, more);
                wrong(242, 191, 128, more);
            }
        }
    }

    /** "any row of": characters of every length behind one another, and what holds for one does not for the next. */
    private static void anyRowOf() {
        int[] row = {'a', 195, 169, 224, 160, 128, 226, 130, 172, 237, 159, 191, 240, 144, 128, 128, 244, 143, 191, 191, 'z'};
        text(row);
        text(224, 160, 128, 225, 128, 128);
        text(237, 159, 191, 236, 191, 191);
        text(240, 144, 128, 128, 241, 128, 128, 128);
        text(244, 143, 191, 191, 243, 191, 191, 191);
        wrong(225, 128, 128, 224, 159);
        wrong(236, 191, 191, 237, 160);
        wrong(241, 128, 128, 128, 240, 143);
        wrong(243, 191, 191, 191, 244, 144);
    }

    /** "any row of": also none at all. */
    private static void noBytes() {
        text();
    }

    /** "The last byte of the last frame of a TEXT": "a character is not whole: 1007". */
    private static void wholeAtTheLastFrame() {
        int[][] characters = {{195, 169}, {226, 130, 172}, {240, 159, 146, 150}};
        for (int[] whole : characters) {
            byte[] row = OtherEnd.bytes(whole);
            for (int size = 1; size < row.length; size++) {
                byte[] part = Arrays.copyOf(row, size);
                Edge.violates("in one frame", 1007, OtherEnd.frame(129, part));
                Edge.violates("in a MORE", 1007, OtherEnd.frame(1, OtherEnd.signs("a")), OtherEnd.frame(128, part));
                Edge.violates("in a MORE alone", 1007, OtherEnd.frame(1, new byte[0]), OtherEnd.frame(128, part));
            }
            FramedTalk x = OtherEnd.open();
            OtherEnd.due("a whole one", OtherEnd.feed(x, OtherEnd.frame(1, new byte[0]), OtherEnd.frame(128, row)), 1);
        }
    }

    /** "(of its mask, when its content is empty)". */
    private static void wholeAtTheMask() {
        for (int[] part : new int[][] {{195}, {226}, {226, 130}, {240}, {240, 159}, {240, 159, 146}}) {
            byte[] begin = OtherEnd.frame(1, OtherEnd.bytes(part));
            Edge.violates("an empty last frame", 1007, begin, OtherEnd.bytes(128, 128, 9, 9, 9, 9));
            Edge.stands("an empty frame that is not last", begin, OtherEnd.bytes(0, 128, 9, 9, 9, 9));
        }
        FramedTalk x = OtherEnd.open();
        byte[] begin = OtherEnd.frame(1, OtherEnd.bytes(195, 169));
        OtherEnd.due("an empty last frame", OtherEnd.feed(x, begin, OtherEnd.bytes(128, 128, 9, 9, 9, 9)), 1);
    }

    /** "(MOREs of it, too)": a character may be cut anywhere, and what can't go on is found in the MORE. */
    private static void cutByFrames() {
        byte[] row = OtherEnd.bytes('a', 195, 169, 226, 130, 172, 240, 159, 146, 150, 'z');
        for (int cut = 0; cut <= row.length; cut++) {
            FramedTalk x = OtherEnd.open();
            OtherEnd.due("cut at " + cut, OtherEnd.feed(x, OtherEnd.frame(1, Arrays.copyOf(row, cut)),
                OtherEnd.frame(128, Arrays.copyOfRange(row, cut, row.length))), 1);
            OtherEnd.due("put together again", OtherEnd.message(x, 0), OtherEnd.asSigns(row));
        }
        int[][] begun = {{195}, {226}, {226, 130}, {224}, {237}, {240}, {244}};
        int[] next = {'a', 192, 127, 159, 160, 143, 144};
        for (int i = 0; i < begun.length; i++) {
            byte[] begin = OtherEnd.frame(1, OtherEnd.bytes(begun[i]));
            byte[] wrong = OtherEnd.join(OtherEnd.head(128, 3), new byte[4], OtherEnd.bytes(next[i]));
            Edge.violates("in a MORE behind " + Arrays.toString(begun[i]), 1007, begin, wrong);
        }
    }

    /** What one message has left does not count in the next. */
    private static void startsAnewInEachMessage() {
        FramedTalk x = OtherEnd.open();
        OtherEnd.feed(x, OtherEnd.frame(129, OtherEnd.bytes(195, 169)), OtherEnd.frame(130, OtherEnd.bytes(195)));
        OtherEnd.due("a text behind", OtherEnd.feed(x, OtherEnd.frame(129, OtherEnd.signs("a"))), 1);
        OtherEnd.feed(x, OtherEnd.frame(129, OtherEnd.bytes(169)));
        OtherEnd.due("endCode", x.endCode(), 1007);
    }

    /** BYTES, PINGs, PONGs and a draft that is sent as BYTES or in a PING may hold anything. */
    private static void notLookedAtElsewhere() {
        for (int[] row : new int[][] {{128}, {195}, {255}, {244, 144}, {237, 160, 128}}) {
            byte[] content = OtherEnd.bytes(row);
            FramedTalk x = Edge.stands("BYTES", OtherEnd.frame(2, content), OtherEnd.frame(128, content),
                OtherEnd.frame(137, content), OtherEnd.frame(138, content));
            OtherEnd.due("delivered", x.delivered(), 1);
            OtherEnd.due("pongs", x.pongs(), 1);
            OtherEnd.write(x, content);
            OtherEnd.due("send as BYTES", x.send(2, 0), 1);
            Edge.dueDraft("in a PING", x, content);
        }
    }
}
