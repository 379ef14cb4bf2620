import java.util.ArrayList;
import java.util.Arrays;
import java.util.List;
import java.util.function.Function;
import java.util.function.Supplier;

/**
 * "A call that throws, or is refused, changes nothing": every such call at many points of a talk, each beside a
 * twin that did without it; both must then go on alike, in what can be seen and in what can't.
 */
public final class RefusedCallTest {
    private static final byte[] NONE = {};
    private static final byte[] DRAFT = OtherEnd.utf8("dr\u00e4ft");

    /** A point of a talk, and the bytes that come next there. */
    private record Point(String name, Supplier<FramedTalk> maker, byte[] rest) {
    }

    private record Attempt(String name, Function<FramedTalk, Object> call) {
    }

    public static void main(String[] args) {
        List<Point> points = points();
        for (Attempt attempt : everRefused()) {
            for (Point point : points) {
                OtherEnd.due(attempt.name + " at " + point.name + " is refused", isRefused(attempt, point), true);
                dueAlike(attempt, point);
            }
        }
        for (Attempt attempt : sometimesRefused()) {
            int refused = 0;
            for (Point point : points) {
                if (isRefused(attempt, point)) {
                    refused++;
                    dueAlike(attempt, point);
                }
            }
            OtherEnd.due(attempt.name + " is refused at some points, not at all",
                refused > 0 && refused < points.size(), true);
        }
        for (Attempt attempt : looks()) {
            for (Point point : points) {
                dueAlike(attempt, point);
            }
        }
        OtherEnd.end();
    }

    private static Object answer(Attempt attempt, FramedTalk x) {
        try {
            return attempt.call.apply(x);
        } catch (RuntimeException e) {
            return e.getClass().getSimpleName();
        }
    }

    private static boolean isRefused(Attempt attempt, Point point) {
        Object answer = answer(attempt, point.maker.get());
        return answer instanceof String || answer.equals(false);
    }

    private static void dueAlike(Attempt attempt, Point point) {
        String what = attempt.name + " at " + point.name;
        List<Function<FramedTalk, String>> ways = new ArrayList<>();
        ways.add(Edge::picture);
        ways.add(x -> whenFed(x, point.rest));
        ways.add(RefusedCallTest::whenSaid);
        ways.add(RefusedCallTest::whenWritten);
        ways.add(RefusedCallTest::whenTaken);
        for (Function<FramedTalk, String> way : ways) {
            FramedTalk x = point.maker.get();
            answer(attempt, x);
            OtherEnd.due(what + ": afterwards", way.apply(x), way.apply(point.maker.get()));
        }
    }

    private static String log(FramedTalk x, String name, Function<FramedTalk, Object> call) {
        return name + " " + answer(new Attempt(name, call), x) + "; ";
    }

    private static String whenFed(FramedTalk x, byte[] rest) {
        StringBuilder all = new StringBuilder();
        for (byte b : rest) {
            all.append(log(x, "feed", y -> y.feed(b, 1)));
            all.append(log(x, "state", y -> y.state()));
        }
        return all + Edge.picture(x);
    }

    private static String whenSaid(FramedTalk x) {
        x.drop(x.outLength());
        return log(x, "send", y -> y.send(2, 3)) + log(x, "ping", RefusedCallTest::ping)
            + log(x, "close", y -> close(y, 1000)) + Edge.picture(x);
    }

    private static String whenWritten(FramedTalk x) {
        int room = 0;
        while (room <= 100 && x.write('w', 1)) {
            room++;
        }
        return "room " + room + "; " + whenSaid(x);
    }

    private static String whenTaken(FramedTalk x) {
        StringBuilder all = new StringBuilder();
        for (int i = 0; i < 5; i++) {
            all.append(log(x, "take", y -> y.take()));
        }
        return all + Edge.picture(x);
    }

    private static Object ping(FramedTalk x) {
        x.ping();
        return true;
    }

    private static Object close(FramedTalk x, int code) {
        x.close(code);
        return true;
    }

    private static List<Attempt> everRefused() {
        List<Attempt> all = new ArrayList<>();
        for (int n : new int[] {-1, 0, 9, Integer.MIN_VALUE, Integer.MAX_VALUE}) {
            all.add(new Attempt("feed of " + n, x -> x.feed(0x0A0D0A0D818A89FFL, n)));
            all.add(new Attempt("write of " + n, x -> x.write(-1, n)));
        }
        for (int i : new int[] {-1, 575, Integer.MIN_VALUE, Integer.MAX_VALUE}) {
            all.add(new Attempt("outAt(" + i + ")", x -> x.outAt(i)));
            all.add(new Attempt("drop(" + i + ")", x -> x.drop(i)));
            all.add(new Attempt("kind(" + i + ")", x -> x.kind(i)));
            all.add(new Attempt("length(" + i + ")", x -> x.length(i)));
            all.add(new Attempt("byteAt(" + i + ", 0)", x -> x.byteAt(i, 0)));
            all.add(new Attempt("byteAt(0, " + i + ")", x -> x.byteAt(0, i)));
            all.add(new Attempt("send(" + i + ", 0)", x -> x.send(i, 0)));
            all.add(new Attempt("send(2, " + i + ")", x -> x.send(2, i)));
            all.add(new Attempt("close(" + i + ")", x -> close(x, i)));
        }
        all.add(new Attempt("one too many dropped", x -> x.drop(x.outLength() + 1)));
        all.add(new Attempt("outAt behind the last", x -> x.outAt(x.outLength())));
        all.add(new Attempt("kind behind the last", x -> x.kind(x.messages())));
        all.add(new Attempt("send(3, 0)", x -> x.send(3, 0)));
        all.add(new Attempt("send(1, 101)", x -> x.send(1, 101)));
        all.add(new Attempt("close(1004)", x -> close(x, 1004)));
        return all;
    }

    private static List<Attempt> sometimesRefused() {
        List<Attempt> all = new ArrayList<>();
        all.add(new Attempt("feed of 1", x -> x.feed(255, 1)));
        all.add(new Attempt("feed of 8", x -> x.feed(-1, 8)));
        all.add(new Attempt("drop(1)", x -> x.drop(1)));
        all.add(new Attempt("take", x -> x.take()));
        all.add(new Attempt("write of 1", x -> x.write(-1, 1)));
        all.add(new Attempt("write of 8", x -> x.write(-1, 8)));
        all.add(new Attempt("send as TEXT", x -> x.send(1, 0)));
        all.add(new Attempt("send as BYTES", x -> x.send(2, 0)));
        all.add(new Attempt("send by 1", x -> x.send(2, 1)));
        all.add(new Attempt("ping", RefusedCallTest::ping));
        all.add(new Attempt("close(1000)", x -> close(x, 1000)));
        return all;
    }

    /** What only looks changes nothing either, whether it throws or not. */
    private static List<Attempt> looks() {
        List<Attempt> all = new ArrayList<>();
        all.add(new Attempt("state", x -> x.state()));
        all.add(new Attempt("endCode", x -> x.endCode()));
        all.add(new Attempt("outLength", x -> x.outLength()));
        all.add(new Attempt("outAt", x -> x.outAt(0)));
        all.add(new Attempt("drop(0)", x -> x.drop(0)));
        all.add(new Attempt("messages", x -> x.messages()));
        all.add(new Attempt("delivered", x -> x.delivered()));
        all.add(new Attempt("kind", x -> x.kind(0)));
        all.add(new Attempt("length", x -> x.length(0)));
        all.add(new Attempt("byteAt", x -> x.byteAt(0, 0)));
        all.add(new Attempt("pongs", x -> x.pongs()));
        return all;
    }

    private static Point within(String name, byte[] row, int cut) {
        byte[] before = Arrays.copyOf(row, cut);
        byte[] rest = OtherEnd.join(Arrays.copyOfRange(row, cut, row.length), OtherEnd.frame(129, OtherEnd.signs("next")));
        return new Point(name, () -> {
            FramedTalk x = Edge.openWithDraft(DRAFT);
            OtherEnd.feed(x, before);
            return x;
        }, rest);
    }

    private static List<Point> points() {
        List<Point> all = new ArrayList<>();
        asked(all);
        open(all);
        full(all);
        closing(all);
        closed(all);
        return all;
    }

    private static void asked(List<Point> all) {
        byte[] request = OtherEnd.signs(OtherEnd.goodRequest(OtherEnd.KEY));
        all.add(new Point("a new one", FramedTalk::new, request));
        for (int cut : new int[] {1, 80, request.length - 1}) {
            all.add(new Point("byte " + cut + " of the request", () -> {
                FramedTalk x = new FramedTalk();
                OtherEnd.write(x, DRAFT);
                OtherEnd.feed(x, Arrays.copyOf(request, cut));
                return x;
            }, OtherEnd.join(Arrays.copyOfRange(request, cut, request.length), OtherEnd.frame(137, DRAFT))));
        }
        all.add(new Point("the 399th byte", () -> {
            FramedTalk x = new FramedTalk();
            OtherEnd.feed(x, OtherEnd.many('G', 399));
            return x;
        }, OtherEnd.bytes('G')));
    }

    private static void open(List<Point> all) {
        byte[] text = OtherEnd.frame(129, OtherEnd.utf8("\u20ac\u20ac"));
        for (int cut = 0; cut < text.length; cut++) {
            all.add(within("byte " + cut + " of a TEXT", text, cut));
        }
        byte[] longOne = OtherEnd.frame(130, OtherEnd.many(200, 126));
        all.add(within("the length in two bytes", longOne, 3));
        all.add(within("the length in eight bytes", OtherEnd.longHead(130, 65536), 6));
        byte[] pieces = OtherEnd.join(OtherEnd.frame(1, OtherEnd.bytes('a', 226)), OtherEnd.frame(137, OtherEnd.bytes(7, 8)),
            OtherEnd.frame(138, NONE), OtherEnd.frame(128, OtherEnd.bytes(130, 172)));
        for (int cut : new int[] {8, 15, 16, 22, 29}) {
            all.add(within("byte " + cut + " of a message in pieces", pieces, cut));
        }
        all.add(within("a CLOSE", OtherEnd.closeFrame(1001, OtherEnd.signs("bye")), 8));
        byte[] four = OtherEnd.join(text, longOne, text, OtherEnd.frame(130, NONE), text);
        all.add(within("four that wait", four, four.length - text.length));
        all.add(within("four that wait and one that is lost", four, four.length));
    }

    private static void full(List<Point> all) {
        byte[] half = OtherEnd.join(OtherEnd.many('h', 99), OtherEnd.bytes(195));
        for (int size : new int[] {0, 298, 299, 300, 400, 470}) {
            all.add(new Point("an OUT of " + size + " and a full draft", () -> {
                FramedTalk x = Edge.openWithOut(size);
                OtherEnd.write(x, half);
                return x;
            }, OtherEnd.join(OtherEnd.frame(137, NONE), OtherEnd.frame(137, OtherEnd.many('q', 68)))));
        }
    }

    private static void closing(List<Point> all) {
        byte[] row = OtherEnd.join(OtherEnd.frame(129, OtherEnd.signs("late")), OtherEnd.closeFrame(4000, NONE));
        for (int cut : new int[] {0, 5, 10, 15, 17}) {
            all.add(new Point("byte " + cut + " when CLOSING", () -> {
                FramedTalk x = Edge.openWithDraft(DRAFT);
                x.close(3000);
                OtherEnd.feed(x, Arrays.copyOf(row, cut));
                return x;
            }, Arrays.copyOfRange(row, cut, row.length)));
        }
    }

    private static void closed(List<Point> all) {
        byte[][] ends = {OtherEnd.bytes(255), OtherEnd.closeFrame(1003, NONE), OtherEnd.frame(136, NONE)};
        for (byte[] end : ends) {
            all.add(new Point("CLOSED by " + Arrays.toString(end), () -> {
                FramedTalk x = Edge.openWithDraft(DRAFT);
                OtherEnd.feed(x, OtherEnd.frame(129, OtherEnd.signs("kept")), OtherEnd.frame(138, NONE), end);
                return x;
            }, OtherEnd.frame(129, NONE)));
        }
        all.add(new Point("CLOSED by a bad request", () -> {
            FramedTalk x = new FramedTalk();
            OtherEnd.feed(x, OtherEnd.signs("\r\n\r\n"));
            return x;
        }, OtherEnd.signs("GET")));
    }
}
