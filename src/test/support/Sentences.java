import java.io.IOException;
import java.nio.charset.StandardCharsets;
import java.nio.file.Files;
import java.nio.file.Path;
import java.util.ArrayList;
import java.util.LinkedHashMap;
import java.util.List;
import java.util.Map;

/**
 * What the tests of single sentences share. Each test quotes the sentence of ../shared/DOC.md that it holds; the quote
 * must stand in the document, and when a section ends, each part of it must have been quoted: by a test, or as one
 * that names no edge. So a sentence that nobody looked at is found.
 */
abstract class Sentences {
    /** Makes an object and brings it to where a test starts. */
    interface Start {
        HotPanLocks made();
    }

    interface Call {
        long on(HotPanLocks x);
    }

    interface NumberedCall {
        long on(HotPanLocks x, int number);
    }

    interface Check {
        void run();
    }

    /** What stands between two semicolons of a sentence. */
    private record Part(String whole, int start, int end) {
        boolean isTouchedBy(String text) {
            int place = whole.indexOf(text);
            return place >= 0 && place < end && place + text.length() > start;
        }

        String words() {
            return whole.substring(start, end);
        }
    }

    static final int NONE = HotPanLocks.NONE;
    static final Class<?> INDEX = IndexOutOfBoundsException.class;
    static final Class<?> ARGUMENT = IllegalArgumentException.class;
    static final Class<?> STATE = IllegalStateException.class;

    /** No hands, among them some that a shift, a product or a narrower type would wrap round to a hand. */
    static final int[] NO_HANDS = {-1, 8, -8, 12, 32, 39, 256, 1 << 30, Integer.MAX_VALUE, Integer.MIN_VALUE};
    /** No rows, likewise; 12 and 95 would be rows of another hand, were all locks counted through. */
    static final int[] NO_ROWS = {-1, 12, -12, 32, 43, 84, 95, 256, 1 << 30, Integer.MAX_VALUE, Integer.MIN_VALUE};
    /** Out of each small range of the document that is not about hands and rows. */
    static final int[] WILD = {-1, 256, 257, 1 << 30, Integer.MAX_VALUE, Integer.MIN_VALUE, Integer.MIN_VALUE + 1};

    private static final Path DOCUMENT = Path.of("../shared/DOC.md");
    private static final Map<String, List<String>> SECTIONS = readSections();
    private static final List<String> OPENED = new ArrayList<>();

    private static List<Part> untold = new ArrayList<>();
    private static String section = "";
    private static String sentence = "";
    private static int held = 0;
    private static int wrong = 0;

    // ---- the document

    private static Map<String, List<String>> readSections() {
        Map<String, List<String>> found = new LinkedHashMap<>();
        List<String> parts = new ArrayList<>();
        boolean face = false;
        for (String line : documentLines()) {
            if (line.startsWith("```")) {
                face = !face;
            } else if (line.startsWith("#")) {
                parts = new ArrayList<>();
                found.put(line.replaceFirst("#+ ", ""), parts);
            } else if (face && !line.isBlank()) {
                parts.add(line.trim());
            } else if (!line.isBlank()) {
                for (String one : line.split("(?<=[.)])\\s+(?=[A-Z(])")) {
                    parts.add(one);
                }
            }
        }
        return found;
    }

    private static List<String> documentLines() {
        try {
            return Files.readAllLines(DOCUMENT, StandardCharsets.UTF_8);
        } catch (IOException e) {
            System.out.println(DOCUMENT + " can't be read: the quotes are not looked up");
            return new ArrayList<>();
        }
    }

    private static void fault(String what) {
        wrong++;
        System.out.println(section + (sentence.isEmpty() ? "" : ", \"" + sentence + "\"") + ": " + what);
    }

    static void section(String heading) {
        close();
        section = heading;
        OPENED.add(heading);
        untold = new ArrayList<>();
        if (!SECTIONS.isEmpty() && !SECTIONS.containsKey(heading)) {
            fault("the document has no such section");
        }
        for (String whole : SECTIONS.getOrDefault(heading, List.of())) {
            int start = 0;
            for (String words : whole.split("; ")) {
                untold.add(new Part(whole, start, start + words.length()));
                start += words.length() + 2;
            }
        }
    }

    private static void close() {
        sentence = "";
        for (Part part : untold) {
            fault("no test tells of \"" + part.words() + "\"");
        }
        untold = new ArrayList<>();
    }

    private static void quote(String text) {
        sentence = text;
        List<String> wholes = SECTIONS.getOrDefault(section, List.of());
        if (!SECTIONS.isEmpty() && wholes.stream().noneMatch(whole -> whole.contains(text))) {
            fault("the document does not say so");
        }
        untold.removeIf(part -> part.isTouchedBy(text));
    }

    /** A sentence of the open section, or a part of one, that names an edge, and the test that holds it. */
    static void holds(String text, Check check) {
        quote(text);
        held++;
        try {
            check.run();
        } catch (RuntimeException e) {
            fault("the test was thrown out by " + e);
        }
    }

    static void namesNoEdge(String... texts) {
        for (String text : texts) {
            quote(text);
        }
    }

    /** Ends a test whose sections are all from the first to the last one, and tells how it went. */
    static void end(String first, String last) {
        close();
        List<String> all = new ArrayList<>(SECTIONS.keySet());
        if (!all.isEmpty() && !all.subList(all.indexOf(first), all.indexOf(last) + 1).equals(OPENED)) {
            fault("the sections " + OPENED + " are not all from " + first + " to " + last);
        }
        System.out.println(held + " tests of sentences" + (wrong == 0 ? ", all hold" : ", " + wrong + " faults"));
        if (wrong != 0) {
            System.exit(1);
        }
    }

    // ---- answers

    static void due(String what, long got, long want) {
        if (got != want) {
            fault(what + " answered " + got + ", due is " + want);
        }
    }

    static void dueText(String what, String got, String want) {
        if (!got.equals(want)) {
            fault(what + " is " + got + ", due is " + want);
        }
    }

    /** All that can be told of an object: its state and its buffer, and each state that undo would restore. */
    static String whole(HotPanLocks x) {
        StringBuilder s = new StringBuilder().append(x.digest());
        for (int left = x.count(9); left > 0; left--) {
            x.undo();
            s.append(' ').append(x.digest());
        }
        return s.toString();
    }

    /** The call throws exactly this and changes nothing, neither what is seen nor what undo would restore. */
    static void refused(String what, Start start, Class<?> kind, Call call) {
        HotPanLocks x = start.made();
        Class<?> got = null;
        try {
            call.on(x);
        } catch (RuntimeException e) {
            got = e.getClass();
        }
        if (got != kind) {
            fault(what + " threw " + got + ", due is " + kind);
        }
        dueText(what + ", all that can be told after it", whole(x), whole(start.made()));
    }

    static void refusedEach(String what, Start start, Class<?> kind, int[] numbers, NumberedCall call) {
        for (int number : numbers) {
            refused(what + " " + number, start, kind, x -> call.on(x, number));
        }
    }

    /** The call answers and changes nothing. */
    static void told(String what, Start start, Call call, long want) {
        HotPanLocks x = start.made();
        due(what, call.on(x), want);
        dueText(what + ", all that can be told after it", whole(x), whole(start.made()));
    }

    /** The call answers, saves one state, and undo restores all that was before it; start saves fewer than 6. */
    static void undoable(String what, Start start, Call call, long want) {
        HotPanLocks x = start.made();
        int saved = x.count(9);
        due(what, call.on(x), want);
        due(what + ", saved states", x.count(9), saved + 1);
        due(what + ", undo", x.undo(), saved);
        dueText(what + ", all that can be told after undo", whole(x), whole(start.made()));
    }

    /** What the deeds change, each by its name; all the rest that can be told follows from it, but for the buffer. */
    private static Map<String, String> seen(HotPanLocks x) {
        Map<String, String> found = new LinkedHashMap<>();
        for (int hand = 0; hand < 8; hand++) {
            for (int row = 0; row < 12; row++) {
                found.put("lock " + (char) ('a' + hand) + row, "" + x.lock(hand, row));
            }
        }
        for (int row = 0; row < 12; row++) {
            found.put("queue " + row, queue(x, row));
            found.put("heat " + row, "" + x.row(row, 0));
            found.put("handed on " + row, "" + x.row(row, 4));
        }
        for (int hand = 0; hand < 8; hand++) {
            String[] names = {"burnt ", "lost ", "granted ", "asked "};
            for (int what = 0; what < 4; what++) {
                found.put(names[what] + (char) ('a' + hand), "" + x.hand(hand, 5 + what));
            }
        }
        for (int setting = 0; setting < 3; setting++) {
            found.put("setting " + setting, "" + x.setting(setting));
        }
        found.put("ticks", "" + x.count(2));
        found.put("saved", "" + x.count(9));
        return found;
    }

    /** The call changes this and nothing else. It is looked at in objects of its own, for there are 512 calls alone. */
    static void changes(String what, Start start, Call call, String want) {
        Map<String, String> before = seen(start.made());
        HotPanLocks x = start.made();
        call.on(x);
        List<String> found = new ArrayList<>();
        for (Map.Entry<String, String> one : seen(x).entrySet()) {
            String was = before.get(one.getKey());
            if (!one.getValue().equals(was)) {
                found.add(one.getKey() + " " + was + ">" + one.getValue());
            }
        }
        dueText(what + ": what is changed", String.join("; ", found), want);
    }

    // ---- objects

    static HotPanLocks type(HotPanLocks x, String text) {
        for (int place = 0; place < text.length(); place++) {
            x.append(text.charAt(place));
        }
        return x;
    }

    static HotPanLocks typed(String text) {
        return type(new HotPanLocks(), text);
    }

    /** Carries out requests; all of them must be carried out. */
    static HotPanLocks did(HotPanLocks x, String text) {
        due("requests in " + text, type(x, text).run(), text.split(",").length);
        return x;
    }

    /** A new object after requests; each text is one run, and so saves one state. */
    static HotPanLocks after(String... texts) {
        HotPanLocks x = new HotPanLocks();
        for (String text : texts) {
            did(x, text);
        }
        return x;
    }

    /** Some of all: locks, three hands that wait, heat, two saved states, and a buffer that breaks off. */
    static HotPanLocks rich() {
        HotPanLocks x = after("a0p,b0p,c0s,b1h,d1p,e2s,a0s,f0h");
        x.pass(3);
        return type(x, "g4p,h");
    }

    /** The queue of a row, each request as the letter of its hand and its mode. */
    static String queue(HotPanLocks x, int row) {
        StringBuilder s = new StringBuilder();
        for (int place = 0; place < 8 && x.request(row, place, 0) != NONE; place++) {
            s.append((char) ('a' + x.request(row, place, 0))).append(x.request(row, place, 1));
        }
        return s.toString();
    }

    static void dueQueue(HotPanLocks x, int row, String want) {
        dueText("the queue of row " + row, queue(x, row), want);
    }
}
