import java.security.MessageDigest;
import java.security.NoSuchAlgorithmException;
import java.util.Arrays;
import java.util.Base64;
import java.util.Random;
import java.util.Set;
import java.util.TreeSet;

/** The edges of the request; over each test stand the document's words that it is for. */
public final class RequestEdgeTest {
    private static final String[] FIVE = {Asker.HOST, Asker.UPGRADE, Asker.CONNECTION, Asker.KEY, Asker.VERSION};
    private static final String SIGNS = "ABCDEFGHIJKLMNOPQRSTUVWXYZabcdefghijklmnopqrstuvwxyz0123456789+/";
    private static final String OLD_VERSION = "Sec-WebSocket-Version: 12";

    public static void main(String[] args) throws NoSuchAlgorithmException {
        everyByteBeforeTheEnd();
        nearlyAnEnd();
        behindTheFirstEnd();
        the400thByte();
        the400thByteOfAnyRequest();
        the400thByteWithinACall();
        endAtThe400thByte();
        linesBeforeTheFirst();
        numberOfTargetSigns();
        everyTargetSign();
        everySignOfTheFirstLine();
        numberOfNameSigns();
        everyNameSign();
        valueOfNone();
        everyValueSign();
        singleCrOrLf();
        justOneLineEach();
        otherNames();
        hostNotEmpty();
        wordsOfUpgrade();
        wordsOfConnection();
        piecesBetweenCommas();
        numberOfKeySigns();
        everyKeySign();
        lastKeySign();
        blanksRoundTheKey();
        versions();
        badBeforeOld();
        everyBase64Sign();
        OtherEnd.end();
    }

    /** "read up to its end": nothing is answered before its last byte. */
    private static void everyByteBeforeTheEnd() {
        byte[] row = OtherEnd.signs(OtherEnd.goodRequest(OtherEnd.KEY));
        FramedTalk x = new FramedTalk();
        for (int i = 0; i < row.length - 1; i++) {
            x.feed(row[i], 1);
            OtherEnd.due("state behind byte " + i, x.state(), OtherEnd.ASKED);
        }
        OtherEnd.due("outLength before the last byte", x.outLength(), 0);
        x.feed(row[row.length - 1], 1);
        Asker.dueAnswer("at the last byte", x, Asker.welcome(OtherEnd.PROOF), OtherEnd.OPEN);
    }

    /** "the first CR LF CR LF": what is nearly one is none, and the end is found at its last byte. */
    private static void nearlyAnEnd() {
        String[] open = {"\r\n\r", "\n\r\n", "\r\n\n", "\r\r\r\r", "\n\n\n\n", "\r\n\n\r\n", "\r\n\r\r\n", "\r\nx\r\n",
            "\r\n\r\r", "\n\r\n\r"};
        for (String text : open) {
            dueEndOnlyBehind(text, "\r\n\r\n");
        }
        dueEndOnlyBehind("\r\n\r", "\n");
        dueEndOnlyBehind("\r\n", "\r\n");
        dueEndOnlyBehind("\r", "\n\r\n");
        dueEndOnlyBehind("\r\r\n\r", "\n");
        dueEndOnlyBehind("\n\r\n\r", "\n");
    }

    private static void dueEndOnlyBehind(String text, String rest) {
        FramedTalk x = new FramedTalk();
        byte[] row = OtherEnd.signs(text + rest);
        int end = OtherEnd.asSigns(row).indexOf("\r\n\r\n") + 4;
        for (int i = 0; i < end; i++) {
            OtherEnd.due("state before byte " + i + " of " + text.length() + " and its rest", x.state(), OtherEnd.ASKED);
            x.feed(row[i], 1);
        }
        Asker.dueAnswer("at the end", x, Asker.BAD, OtherEnd.CLOSED);
    }

    /** "the first CR LF CR LF": what comes behind it is no request any more, be it a second end. */
    private static void behindTheFirstEnd() {
        FramedTalk x = new FramedTalk();
        OtherEnd.feed(x, OtherEnd.signs(OtherEnd.goodRequest(OtherEnd.KEY) + "\r\n\r\n"));
        OtherEnd.due("state behind a second end", x.state(), OtherEnd.CLOSED);
        OtherEnd.due("endCode behind a second end", x.endCode(), 1002);
        OtherEnd.due("OUT behind a second end", OtherEnd.out(x),
            Asker.welcome(OtherEnd.PROOF) + OtherEnd.asSigns(136, 2, 3, 234));
    }

    /** "or up to its 400th byte if that comes first (it is BAD then)". */
    private static void the400thByte() {
        FramedTalk x = new FramedTalk();
        byte[] row = OtherEnd.signs(Asker.ofSize(500, Asker.VERSION));
        for (int i = 0; i < 399; i++) {
            OtherEnd.due("feed of byte " + i, x.feed(row[i], 1), 0);
        }
        OtherEnd.due("state behind 399 bytes", x.state(), OtherEnd.ASKED);
        OtherEnd.due("outLength behind 399 bytes", x.outLength(), 0);
        OtherEnd.due("feed of the 400th", x.feed(row[399], 1), 0);
        Asker.dueAnswer("behind 400 bytes", x, Asker.BAD, OtherEnd.CLOSED);
        Edge.state("feed of the 401st", x, () -> x.feed(row[400], 1));
    }

    /** The same, whatever the bytes are: also when they are three quarters of an end. */
    private static void the400thByteOfAnyRequest() {
        for (String end : new String[] {"\r\n\r", "\r\n\r\r", "\n\r\n", "\0\0\0", "===", "\r\n", "\r"}) {
            FramedTalk x = new FramedTalk();
            byte[] row = OtherEnd.signs("G".repeat(400 - end.length()) + end);
            OtherEnd.feed(x, Arrays.copyOf(row, 399));
            OtherEnd.due("state behind 399 bytes", x.state(), OtherEnd.ASKED);
            x.feed(row[399], 1);
            Asker.dueAnswer("behind 400 bytes", x, Asker.BAD, OtherEnd.CLOSED);
        }
    }

    /** "those that come when the state is CLOSED (by one before) are lost": here by the 400th byte. */
    private static void the400thByteWithinACall() {
        for (int before = 392; before < 400; before++) {
            FramedTalk x = new FramedTalk();
            OtherEnd.feed(x, OtherEnd.many('G', before));
            OtherEnd.due("state behind " + before, x.state(), OtherEnd.ASKED);
            OtherEnd.due("feed of eight", x.feed(0x0A0D0A0D0A0D0A0DL, 8), 0);
            Asker.dueAnswer("eight bytes behind " + before, x, Asker.BAD, OtherEnd.CLOSED);
        }
    }

    /** "if that comes first": an end with its last byte at 399 and at 400 comes in time, at 401 it does not. */
    private static void endAtThe400thByte() {
        for (int size = 398; size <= 400; size++) {
            Asker.due(Asker.ofSize(size, Asker.VERSION), Asker.welcome(OtherEnd.PROOF), OtherEnd.OPEN);
            Asker.due(Asker.ofSize(size, OLD_VERSION), Asker.OLD, OtherEnd.CLOSED);
        }
        for (int size = 401; size <= 404; size++) {
            Asker.due(Asker.ofSize(size, Asker.VERSION), Asker.BAD, OtherEnd.CLOSED);
            Asker.due(Asker.ofSize(size, OLD_VERSION), Asker.BAD, OtherEnd.CLOSED);
        }
    }

    /** "cut at each CR LF into LINES": one without a sign before the first is the first, and there may be no others. */
    private static void linesBeforeTheFirst() {
        Asker.due("\r\n" + OtherEnd.goodRequest(OtherEnd.KEY), Asker.BAD, OtherEnd.CLOSED);
        Asker.due("\r\n\r\n" + OtherEnd.goodRequest(OtherEnd.KEY), Asker.BAD, OtherEnd.CLOSED);
        Asker.due("x: y\r\n" + OtherEnd.goodRequest(OtherEnd.KEY), Asker.BAD, OtherEnd.CLOSED);
        Asker.bad(Asker.FIRST);
        Asker.bad(Asker.FIRST, Asker.FIRST, Asker.HOST, Asker.UPGRADE, Asker.CONNECTION, Asker.KEY, Asker.VERSION);
        Asker.good(Asker.goodLines());
    }

    /** "one or more characters 33 .. 126": none, one, two, and as many as there is room for. */
    private static void numberOfTargetSigns() {
        Asker.bad(Asker.withFirst("GET  HTTP/1.1"));
        Asker.bad(Asker.withFirst("GET HTTP/1.1"));
        Asker.good(Asker.withFirst("GET / HTTP/1.1"));
        Asker.good(Asker.withFirst("GET /a HTTP/1.1"));
        int room = 400 - OtherEnd.request(Asker.withFirst("GET  HTTP/1.1")).length();
        Asker.good(Asker.withFirst("GET " + "/".repeat(room) + " HTTP/1.1"));
        Asker.bad(Asker.withFirst("GET " + "/".repeat(room + 1) + " HTTP/1.1"));
    }

    /** "characters 33 .. 126": every byte, as the only one, the first and the last. */
    private static void everyTargetSign() {
        for (int sign = 0; sign < 256; sign++) {
            boolean isGood = sign >= 33 && sign <= 126;
            Asker.goodOrBad(isGood, Asker.withFirst("GET " + (char) sign + " HTTP/1.1"));
            Asker.goodOrBad(isGood, Asker.withFirst("GET " + (char) sign + "/ HTTP/1.1"));
            Asker.goodOrBad(isGood, Asker.withFirst("GET /" + (char) sign + " HTTP/1.1"));
        }
    }

    /** "GET, a space, ... a space and HTTP/1.1": each sign one lower, one higher, left out and doubled. */
    private static void everySignOfTheFirstLine() {
        String first = "GET / HTTP/1.1";
        for (int i = 0; i < first.length(); i++) {
            String head = first.substring(0, i);
            String tail = first.substring(i + 1);
            char sign = first.charAt(i);
            Asker.bad(Asker.withFirst(head + tail));
            if (i != 4) {
                Asker.bad(Asker.withFirst(head + (char) (sign - 1) + tail));
                Asker.bad(Asker.withFirst(head + (char) (sign + 1) + tail));
                Asker.bad(Asker.withFirst(head + sign + sign + tail));
            }
        }
    }

    /** "a NAME, one or more letters, digits and -, a colon". */
    private static void numberOfNameSigns() {
        Asker.bad(Asker.andThen(":"));
        Asker.bad(Asker.andThen(": v"));
        Asker.good(Asker.andThen("n:"));
        Asker.good(Asker.andThen("n: v"));
        Asker.good(Asker.andThen("nn: v"));
        Asker.bad(Asker.andThen("n"));
        Asker.bad(Asker.andThen("nn v"));
    }

    /** "letters, digits and -": every byte, as the only one, the first and the last. */
    private static void everyNameSign() {
        for (int sign = 0; sign < 256; sign++) {
            boolean isGood = sign >= 'a' && sign <= 'z' || sign >= 'A' && sign <= 'Z' || sign >= '0' && sign <= '9'
                || sign == '-';
            Asker.goodOrBad(isGood, Asker.andThen((char) sign + ": v"));
            Asker.goodOrBad(isGood, Asker.andThen((char) sign + "n: v"));
            // A colon behind a name ends it, and the next one belongs to the value.
            Asker.goodOrBad(isGood || sign == ':', Asker.andThen("n" + (char) sign + ": v"));
        }
    }

    /** "a VALUE of characters 32 .. 126 and 9 (perhaps none)". */
    private static void valueOfNone() {
        Asker.good(Asker.andThen("n:"));
        Asker.good(Asker.andThen("n: "));
        Asker.good(Asker.andThen("n:\t"));
        Asker.good(Asker.andThen("n:v"));
    }

    /** "characters 32 .. 126 and 9": every byte, as the only one, the first and the last. */
    private static void everyValueSign() {
        for (int sign = 0; sign < 256; sign++) {
            boolean isGood = sign >= 32 && sign <= 126 || sign == 9;
            Asker.goodOrBad(isGood, Asker.andThen("n:" + (char) sign));
            Asker.goodOrBad(isGood, Asker.andThen("n:" + (char) sign + "v"));
            Asker.goodOrBad(isGood, Asker.andThen("n:v" + (char) sign));
        }
    }

    /** "(and there is no single CR or LF)": one more of them, at every place. */
    private static void singleCrOrLf() {
        String request = OtherEnd.goodRequest(OtherEnd.KEY);
        int size = request.length();
        for (int i = 0; i < size; i++) {
            dueBadWith("\r", i, request);
            // A second LF at the very end would come behind the request.
            if (i < size - 1) {
                dueBadWith("\n", i, request);
            }
        }
        for (int i = 0; i < size - 4; i++) {
            dueBadInstead('\r', i, request);
            dueBadInstead('\n', i, request);
        }
    }

    private static void dueBadInstead(char single, int i, String request) {
        if (request.charAt(i) != single) {
            Asker.due(request.substring(0, i) + single + request.substring(i + 1), Asker.BAD, OtherEnd.CLOSED);
        }
    }

    private static void dueBadWith(String single, int i, String request) {
        // The last end is for those places where the one more breaks the first.
        Asker.due(request.substring(0, i) + single + request.substring(i) + "\r\n\r\n", Asker.BAD, OtherEnd.CLOSED);
    }

    /** "there is just one line each with the names": none, one, two, three. */
    private static void justOneLineEach() {
        Asker.good(Asker.goodLines());
        for (int i = 0; i < FIVE.length; i++) {
            String[] without = Asker.goodLines();
            without[1 + i] = "n: v";
            Asker.bad(without);
            for (String again : new String[] {FIVE[i], FIVE[i].toLowerCase(), FIVE[i].toUpperCase()}) {
                Asker.bad(Asker.andThen(again));
                Asker.bad(Asker.withSecond(again));
            }
            String[] three = Asker.withSecond(FIVE[i]);
            three[0] = Asker.FIRST + "\r\n" + FIVE[i];
            Asker.bad(three);
            // A second line counts whatever its value is.
            Asker.bad(Asker.andThen(nameOf(FIVE[i]) + ":"));
        }
    }

    private static String nameOf(String line) {
        return line.substring(0, line.indexOf(':'));
    }

    /** "(others are for nothing)": names one sign off are others, as often as they come. */
    private static void otherNames() {
        Asker.good(Asker.andThen("n: v\r\nn: v\r\nN: v"));
        for (String line : FIVE) {
            String name = nameOf(line);
            String value = line.substring(name.length());
            for (int i = 0; i < name.length(); i++) {
                String lower = name.substring(0, i) + other(name.charAt(i)) + name.substring(i + 1);
                Asker.good(Asker.andThen(lower + value));
                Asker.bad(replaced(line, lower + value));
                Asker.good(Asker.andThen(name.substring(0, i) + name.substring(i + 1) + value));
            }
            Asker.good(Asker.andThen(name + "s" + value));
            Asker.good(Asker.andThen("x" + name + value));
            Asker.bad(replaced(line, name + "s" + value));
        }
    }

    private static char other(char sign) {
        return sign == '-' ? '0' : sign == 'Z' || sign == 'z' ? 'y' : (char) (sign + 1);
    }

    private static String[] replaced(String line, String by) {
        String[] lines = Asker.goodLines();
        for (int i = 1; i < lines.length; i++) {
            lines[i] = lines[i].equals(line) ? by : lines[i];
        }
        return lines;
    }

    /** "the value of host is not empty", "spaces and 9s at both ends do not count". */
    private static void hostNotEmpty() {
        for (String value : new String[] {"", " ", "\t", "  ", " \t", "\t ", "\t\t\t"}) {
            Asker.bad(Asker.with("Host:" + value));
            Asker.good(Asker.with("Host:" + value + "h"));
            Asker.good(Asker.with("Host:h" + value));
            Asker.good(Asker.with("Host:" + value + "h" + value));
        }
        for (int sign = 33; sign <= 126; sign++) {
            Asker.good(Asker.with("Host:" + (char) sign));
        }
    }

    /** "among the WORDS of upgrade is websocket", "(in capitals or small letters)". */
    private static void wordsOfUpgrade() {
        word("Upgrade", "websocket");
        Asker.bad(Asker.with("Upgrade: upgrade"));
    }

    /** "among those of connection upgrade (in capitals or small letters)". */
    private static void wordsOfConnection() {
        word("Connection", "upgrade");
        Asker.bad(Asker.with("Connection: websocket"));
    }

    private static void word(String name, String word) {
        String start = name + ":";
        Asker.good(Asker.with(start + word));
        Asker.good(Asker.with(start + word.toUpperCase()));
        Asker.bad(Asker.with(start));
        for (int i = 0; i < word.length(); i++) {
            String head = word.substring(0, i);
            String tail = word.substring(i + 1);
            char sign = word.charAt(i);
            Asker.good(Asker.with(start + head + Character.toUpperCase(sign) + tail));
            Asker.bad(Asker.with(start + head + tail));
            Asker.bad(Asker.with(start + head + (char) (sign - 1) + tail));
            Asker.bad(Asker.with(start + head + (char) (sign + 1) + tail));
            Asker.bad(Asker.with(start + head + (char) (sign - 64) + tail));
            Asker.bad(Asker.with(start + head + " " + sign + (i == 0 ? "x" : "") + tail));
            Asker.bad(Asker.with(start + head + sign + sign + tail));
        }
        Asker.bad(Asker.with(start + word + "x"));
        Asker.bad(Asker.with(start + "x" + word));
    }

    /** "Words are the pieces of a value between commas, spaces and 9s at both ends not counting". */
    private static void piecesBetweenCommas() {
        for (String around : new String[] {"$", ",$", "$,", ",$,", ",,$,,", "a,$", "$,a", "a,$,b", " $", "$ ", "\t$\t",
            "a, $ ,b", "a,\t \t$ \t,b", " , $ , ", "a b,$,c d", "$,$"}) {
            Asker.good(Asker.with("Upgrade:" + around.replace("$", "websocket")));
            Asker.good(Asker.with("Connection:" + around.replace("$", "upgrade")));
        }
        for (String around : new String[] {",", ",,", " , ", "a", "a,b", "$ a", "a $", "$\ta", "a\t$", "$ $", "$;$", "a $,b",
            "a,$ b", "$.", "$;", "a,b $,c"}) {
            Asker.bad(Asker.with("Upgrade:" + around.replace("$", "websocket")));
            Asker.bad(Asker.with("Connection:" + around.replace("$", "upgrade")));
        }
        Asker.bad(Asker.with("Upgrade:web,socket"));
        Asker.bad(Asker.with("Connection:up,grade"));
    }

    private static void key(boolean isGood, String value) {
        FramedTalk x = new FramedTalk();
        OtherEnd.feed(x, OtherEnd.signs(OtherEnd.request(Asker.with("Sec-WebSocket-Key:" + value))));
        OtherEnd.due("state with key <" + value + ">", x.state(), isGood ? OtherEnd.OPEN : OtherEnd.CLOSED);
        OtherEnd.due("outLength with key <" + value + ">", x.outLength(), isGood ? 129 : Asker.BAD.length());
    }

    /** "22 BASE64 signs and ==": 20 to 24 signs, none to four times =. */
    private static void numberOfKeySigns() {
        for (int signs = 20; signs <= 24; signs++) {
            for (int ends = 0; ends <= 4; ends++) {
                key(signs == 22 && ends == 2, "A".repeat(signs) + "=".repeat(ends));
            }
        }
        key(false, "");
        key(false, "==");
        key(false, "=".repeat(24));
        key(false, "A".repeat(21) + "===");
        key(false, "==" + "A".repeat(22));
    }

    /** "BASE64 signs are A .. Z, a .. z, 0 .. 9, + and /": every sign of a value, at each of the first 21 places. */
    private static void everyKeySign() {
        for (int place = 0; place < 21; place++) {
            for (int sign = 33; sign <= 126; sign++) {
                String value = "A".repeat(place) + (char) sign + "A".repeat(21 - place) + "==";
                key(SIGNS.indexOf(sign) >= 0, value);
            }
        }
    }

    /** "the last sign before == is one of A Q g w". */
    private static void lastKeySign() {
        for (int sign = 33; sign <= 126; sign++) {
            key("AQgw".indexOf(sign) >= 0, "A".repeat(21) + (char) sign + "==");
            key(sign == '=', "A".repeat(22) + (char) sign + "=");
            key(sign == '=', "A".repeat(22) + "=" + (char) sign);
        }
    }

    /** "spaces and 9s at both ends do not count", but those within do. */
    private static void blanksRoundTheKey() {
        String key = "A".repeat(22) + "==";
        key(true, " " + key);
        key(true, key + " ");
        key(true, "\t \t" + key + " \t ");
        key(false, "A".repeat(22) + " ==");
        key(false, "A".repeat(22) + "= =");
        key(false, "A".repeat(11) + " " + "A".repeat(10) + "==");
        key(false, "A".repeat(11) + "\t" + "A".repeat(11) + "==");
        key(false, key + " " + key);
        key(false, key + ",");
    }

    /** "if the value of sec-websocket-version is not 13". */
    private static void versions() {
        for (String blank : new String[] {"", " ", "\t", " \t"}) {
            Asker.good(Asker.with("Sec-WebSocket-Version:" + blank + "13" + blank));
            Asker.old(Asker.with("Sec-WebSocket-Version:" + blank));
            Asker.old(Asker.with("Sec-WebSocket-Version:" + blank + "12"));
        }
        for (String value : new String[] {"12", "14", "3", "1", "03", "23", "130", "131", "113", "013", "1 3", "13 13",
            "13,", ",13", "13.0", "+13", "-13", "0", "DS", "Q3"}) {
            Asker.old(Asker.with("Sec-WebSocket-Version: " + value));
        }
    }

    /** "If it is bad, ... Else, if the value of sec-websocket-version is not 13": what is bad is never old. */
    private static void badBeforeOld() {
        String[] wrong = {"GET / HTTP/1.0", "Host:", "Upgrade: x", "Connection: x", "Sec-WebSocket-Key: x"};
        for (int i = 0; i < wrong.length; i++) {
            String[] lines = Asker.with(OLD_VERSION);
            Asker.old(lines);
            lines[i] = wrong[i];
            Asker.bad(lines);
        }
        String[] more = Asker.andThen("n");
        more[5] = OLD_VERSION;
        Asker.bad(more);
        more[6] = OLD_VERSION;
        Asker.bad(more);
    }

    /** "for the numbers 0 .. 63", "two bytes at the end are three signs (the last has two bits 0 below) and =". */
    private static void everyBase64Sign() throws NoSuchAlgorithmException {
        Random random = new Random(26);
        MessageDigest digest = MessageDigest.getInstance("SHA-1");
        Set<Character> within = new TreeSet<>();
        Set<Character> last = new TreeSet<>();
        for (int i = 0; i < 1000; i++) {
            byte[] secret = new byte[16];
            random.nextBytes(secret);
            String key = Base64.getEncoder().encodeToString(secret);
            byte[] all = OtherEnd.signs(key + "258EAFA5-E914-47DA-95CA-C5AB0DC85B11");
            String proof = Base64.getEncoder().encodeToString(digest.digest(all));
            Asker.due(OtherEnd.goodRequest(key), Asker.welcome(proof), OtherEnd.OPEN);
            within.add(proof.charAt(0));
            last.add(proof.charAt(26));
        }
        OtherEnd.due("signs that came first", within.size(), 64);
        OtherEnd.due("signs that came last", last.size(), 16);
    }
}
