import java.nio.ByteBuffer;
import java.nio.charset.CharacterCodingException;
import java.nio.charset.CharsetDecoder;
import java.nio.charset.StandardCharsets;
import java.util.Arrays;
import java.util.Random;

/** Texts of characters, in messages, in a CLOSE and in the draft, against the library's own reading of them. */
public final class TextTest {
    private static final int[] EDGES = {0, 127, 128, 143, 144, 159, 160, 191, 192, 193, 194, 223, 224, 225, 236, 237, 238,
        239, 240, 241, 243, 244, 245, 255};

    public static void main(String[] args) {
        for (int a = 0; a < 256; a++) {
            check(OtherEnd.bytes(a));
            for (int b = 0; b < 256; b++) {
                check(OtherEnd.bytes(a, b));
            }
        }
        for (int a : EDGES) {
            for (int b : EDGES) {
                for (int c : EDGES) {
                    check(OtherEnd.bytes(a, b, c));
                    check(OtherEnd.bytes(a, b, c, 'a'));
                    check(OtherEnd.bytes(a, b, c, 128));
                    check(OtherEnd.bytes(a, b, c, 191));
                    check(OtherEnd.bytes(a, b, c, 192));
                }
            }
        }
        randomTexts();
        emptyFrames();
        bytesMayBeAnything();
        OtherEnd.end();
    }

    private static boolean isText(byte[] row) {
        CharsetDecoder decoder = StandardCharsets.UTF_8.newDecoder();
        try {
            decoder.decode(ByteBuffer.wrap(row));
            return true;
        } catch (CharacterCodingException e) {
            return false;
        }
    }

    /** The first byte that can't stand where it stands: no text begins with the bytes up to it. */
    private static int firstWrong(byte[] row) {
        for (int i = 0; i < row.length; i++) {
            if (!canGoOn(Arrays.copyOf(row, i + 1))) {
                return i;
            }
        }
        return row.length;
    }

    private static boolean canGoOn(byte[] row) {
        int[] seconds = {128, 160, 144};
        if (isText(row)) {
            return true;
        }
        for (int second : seconds) {
            if (isText(OtherEnd.join(row, OtherEnd.bytes(second)))
                || isText(OtherEnd.join(row, OtherEnd.bytes(second, 128)))
                || isText(OtherEnd.join(row, OtherEnd.bytes(second, 128, 128)))) {
                return true;
            }
        }
        return false;
    }

    private static void check(byte[] row) {
        String what = "text " + Arrays.toString(row);
        boolean text = isText(row);
        FramedTalk x = OtherEnd.open();
        OtherEnd.due(what + ": delivered", OtherEnd.feed(x, OtherEnd.frame(129, row)), text ? 1 : 0);
        OtherEnd.due(what + ": endCode", x.endCode(), text ? 0 : 1007);
        byByte(what, row);
        FramedTalk y = OtherEnd.open();
        OtherEnd.feed(y, OtherEnd.closeFrame(1000, row));
        OtherEnd.due(what + ": endCode by CLOSE", y.endCode(), text ? 1000 : 1007);
        asDraft(what, row, text);
    }

    private static void byByte(String what, byte[] row) {
        FramedTalk x = OtherEnd.open();
        OtherEnd.feed(x, OtherEnd.head(1, row.length), new byte[4]);
        int wrong = firstWrong(row);
        for (int i = 0; i < row.length && i <= wrong; i++) {
            x.feed(row[i], 1);
            OtherEnd.due(what + ": state at byte " + i, x.state(), i == wrong ? OtherEnd.CLOSED : OtherEnd.OPEN);
        }
        if (wrong < row.length) {
            OtherEnd.dueEnd(what, x, 1007);
        }
    }

    private static void asDraft(String what, byte[] row, boolean text) {
        FramedTalk x = OtherEnd.open();
        OtherEnd.write(x, row);
        if (text) {
            OtherEnd.due(what + ": send", x.send(1, 0), 1);
            x.close(1000);
            OtherEnd.due(what + ": state", x.state(), OtherEnd.CLOSING);
        } else {
            OtherEnd.dueArgument(what + ": send", () -> x.send(1, 0));
            OtherEnd.dueArgument(what + ": close", () -> x.close(1000));
            OtherEnd.due(what + ": outLength", x.outLength(), 0);
            OtherEnd.due(what + ": state", x.state(), OtherEnd.OPEN);
            OtherEnd.due(what + ": send as BYTES", x.send(2, 0), 1);
        }
    }

    private static void randomTexts() {
        Random random = new Random(11);
        for (int i = 0; i < 3000; i++) {
            StringBuilder text = new StringBuilder();
            for (int n = random.nextInt(12); n > 0; n--) {
                text.appendCodePoint(character(random));
            }
            byte[] row = OtherEnd.utf8(text.toString());
            if (row.length > 0 && random.nextInt(3) == 0) {
                row[random.nextInt(row.length)] = (byte) EDGES[random.nextInt(EDGES.length)];
            }
            check(Arrays.copyOf(row, Math.max(0, row.length - random.nextInt(2))));
            inFrames(row, random.nextInt(row.length + 1));
        }
    }

    private static int character(Random random) {
        int[] limits = {128, 2048, 0xD800, 0x110000};
        int c = random.nextInt(limits[random.nextInt(4)]);
        return c >= 0xD800 && c < 0xE000 ? 'x' : c;
    }

    private static void inFrames(byte[] row, int cut) {
        FramedTalk x = OtherEnd.open();
        int delivered = OtherEnd.feed(x,
            OtherEnd.frame(1, Arrays.copyOf(row, cut)),
            OtherEnd.frame(128, Arrays.copyOfRange(row, cut, row.length)));
        OtherEnd.due("cut at " + cut + " " + Arrays.toString(row), delivered, isText(row) ? 1 : 0);
    }

    private static void emptyFrames() {
        FramedTalk x = OtherEnd.open();
        OtherEnd.feed(x, OtherEnd.frame(1, OtherEnd.bytes(226, 130)), OtherEnd.bytes(128, 128, 1, 2, 3));
        OtherEnd.due("before the mask's last byte", x.state(), OtherEnd.OPEN);
        x.feed(4, 1);
        OtherEnd.dueEnd("at the mask's last byte", x, 1007);
        FramedTalk y = OtherEnd.open();
        OtherEnd.due("an empty text", OtherEnd.feed(y, OtherEnd.frame(129, new byte[0])), 1);
        OtherEnd.due("its length", y.length(0), 0);
        // The character begun in the message before must not count in the next one.
        FramedTalk z = OtherEnd.open();
        OtherEnd.feed(z, OtherEnd.frame(130, OtherEnd.bytes(226)), OtherEnd.frame(129, OtherEnd.signs("a")));
        OtherEnd.due("a text behind other bytes", z.messages(), 2);
    }

    private static void bytesMayBeAnything() {
        FramedTalk x = OtherEnd.open();
        byte[] row = OtherEnd.bytes(255, 128, 192, 0, 237, 160, 128);
        OtherEnd.due("BYTES", OtherEnd.feed(x, OtherEnd.frame(2, row), OtherEnd.frame(128, row)), 1);
        OtherEnd.due("its bytes", OtherEnd.message(x, 0), OtherEnd.asSigns(OtherEnd.join(row, row)));
        OtherEnd.feed(x, OtherEnd.frame(137, row));
        OtherEnd.due("a PING may hold anything", x.state(), OtherEnd.OPEN);
    }
}
