import java.io.ByteArrayOutputStream;
import java.io.IOException;
import java.lang.reflect.Method;
import java.lang.reflect.Modifier;
import java.nio.file.DirectoryStream;
import java.nio.file.Files;
import java.nio.file.Path;

/** README.md tells the truth: its example runs, and it names every call and every test. */
public final class ReadmeTest {
    private static final Path TESTS = Path.of("src/test/java");
    private static final String BEGIN = "        // README begins\n";
    private static final String END = "        // README ends\n";

    public static void main(String[] args) throws IOException {
        String readme = Files.readString(Path.of("README.md"));
        String source = Files.readString(TESTS.resolve("ReadmeTest.java"));
        String example = between(source, BEGIN, END).replaceAll("(?m)^ {8}", "");
        OtherEnd.due("the example", between(readme, "```java\n", "```\n"), example);
        namesEveryCall(readme);
        namesEveryTest(readme);
        exampleHolds();
        OtherEnd.end();
    }

    private static String between(String text, String begin, String end) {
        int from = text.indexOf(begin) + begin.length();
        return text.substring(from, text.indexOf(end, from));
    }

    private static void namesEveryCall(String readme) {
        for (Method m : FramedTalk.class.getDeclaredMethods()) {
            if (Modifier.isPublic(m.getModifiers())) {
                OtherEnd.due("a row for " + m.getName(), readme.contains("\n| `" + m.getName() + "("), true);
            }
        }
    }

    private static void namesEveryTest(String readme) throws IOException {
        try (DirectoryStream<Path> files = Files.newDirectoryStream(TESTS, "*Test.java")) {
            for (Path file : files) {
                String name = file.getFileName().toString().replace(".java", "");
                OtherEnd.due("a row for " + name, readme.contains("\n| " + name + " |"), true);
            }
        }
    }

    private static void exampleHolds() {
        byte[] request = OtherEnd.signs(OtherEnd.goodRequest(OtherEnd.KEY));
        byte[] incoming = OtherEnd.join(request, OtherEnd.frame(129, OtherEnd.signs("Ho")));
        StringBuilder heard = new StringBuilder();
        ByteArrayOutputStream outgoing = new ByteArrayOutputStream();
        FramedTalk talk = example(incoming, heard, outgoing);
        OtherEnd.due("heard", heard.toString(), "Ho");
        String said = Asker.welcome(OtherEnd.PROOF) + OtherEnd.asSigns(129, 2, 'H', 'i', 136, 2, 3, 232);
        OtherEnd.due("said", OtherEnd.asSigns(outgoing.toByteArray()), said);
        OtherEnd.due("OUT", talk.outLength(), 0);
        OtherEnd.due("state", talk.state(), OtherEnd.CLOSING);
        OtherEnd.feed(talk, OtherEnd.closeFrame(1000, new byte[0]));
        OtherEnd.due("state behind the other end's CLOSE", talk.state(), OtherEnd.CLOSED);
        OtherEnd.due("endCode", talk.endCode(), 1000);
    }

    private static FramedTalk example(byte[] incoming, StringBuilder heard, ByteArrayOutputStream outgoing) {
        // README begins
        FramedTalk talk = new FramedTalk();

        // What came in: the request, and a TEXT behind it, eight bytes at a time.
        for (int from = 0; from < incoming.length && talk.state() != 3; from += 8) {
            int n = Math.min(8, incoming.length - from);
            long w = 0;
            for (int i = n - 1; i >= 0; i--) {
                w = w << 8 | incoming[from + i] & 255;
            }
            talk.feed(w, n);
        }

        // What waits, the oldest message first.
        while (talk.messages() > 0) {
            int length = talk.length(0);
            for (int i = 0; i < length; i++) {
                heard.append((char) talk.byteAt(0, i));
            }
            talk.take();
        }

        // A TEXT of two bytes, "Hi", in one frame; the draft stays until it is cleared.
        talk.write('H' | 'i' << 8, 2);
        talk.send(1, 0);
        talk.clear();

        // A CLOSE; the talk is CLOSED when the other end has answered with one.
        talk.close(1000);

        // What this end says, to be carried to the other end.
        int size = talk.outLength();
        for (int i = 0; i < size; i++) {
            outgoing.write(talk.outAt(i));
        }
        talk.drop(size);
        // README ends
        return talk;
    }
}
