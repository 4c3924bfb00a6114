import java.io.IOException;
import java.nio.file.Files;
import java.nio.file.Path;
import java.util.ArrayList;
import java.util.HashSet;
import java.util.List;
import java.util.Set;
import java.util.function.Supplier;

/**
 * Each sentence of the document that names a boundary case (too small, too large, empty, full, a wrap-around,
 * a refused call) has a test of its own here, under the promise or the term that says it and with its words.
 *
 * No object is used for more than 512 calls: what it answers after them is free.
 */
public final class EdgesTest {
    private static final Path DOCUMENT = Path.of("..", "shared", "DOC.md");
    private static final int LAST_PROMISE = 22;
    private static final int MOST_SECONDS = 120;
    private static final int MIN = Integer.MIN_VALUE;
    private static final int MAX = Integer.MAX_VALUE;
    private static final int NONE = CaretBench.NONE;

    private static final String SIGNS =
        "abcdefghijklmnopqrstuvwxyzABCDEFGHIJKLMNOPQRSTUVWXYZ0123456789+-,. '~^()<>![{]";

    private record Edge(String where, String sentence, Runnable test) {
    }

    private static final List<Edge> EDGES = new ArrayList<>();
    private static volatile Edge running;
    private static int asked = 0;
    private static int wrong = 0;

    public static void main(String[] args) throws IOException {
        gather();
        watch();
        for (Edge edge : EDGES) {
            run(edge);
        }
        running = new Edge("EdgesTest", "each sentence has a test of its own", null);
        everyTermAndPromiseHasOne();
        everySentenceIsTheDocuments();
        System.out.println(EDGES.size() + " sentences, " + asked + " answers asked, " + wrong + " wrong");
        if (wrong != 0) {
            System.exit(1);
        }
    }

    private static void gather() {
        whatItIs();
        signsOfTheLine();
        isles();
        rows();
        marksAndSeparators();
        digitsAndPlainOnes();
        levelsAndTheEnd();
        clusters();
        joining();
        widthsAndSight();
        stands();
        caretsPlace();
        caretBehindAChange();
        movingBySense();
        movingBySight();
        newObject();
        way();
        put();
        putRefused();
        clear();
        count();
        signAndLevel();
        cluster();
        seen();
        caretAndGo();
        onAndStep();
        wordOn();
        wordBack();
        pick();
        pickHalves();
        select();
        piece();
        back();
        ahead();
        type();
        cut();
        undo();
        undoOfTheLatestEight();
        undoOfWhatIsNoChange();
    }

    private static void run(Edge edge) {
        running = edge;
        int before = asked;
        try {
            edge.test().run();
        } catch (RuntimeException thrown) {
            due("a call", "threw " + thrown, "no exception");
        }
        if (asked == before) {
            due("questions", 0, "some");
        }
    }

    /* A call that does not end is a fault of the sentence that asked for it. */
    private static void watch() {
        Thread watch = new Thread(() -> {
            try {
                Thread.sleep(MOST_SECONDS * 1000L);
            } catch (InterruptedException ended) {
                return;
            }
            System.out.println(running.where() + ", \"" + running.sentence() + "\": a call does not end");
            Runtime.getRuntime().halt(1);
        });
        watch.setDaemon(true);
        watch.start();
    }

    // ---- the tests against the document

    private static void everyTermAndPromiseHasOne() {
        List<String> missing = new ArrayList<>(List.of("What it is", "Term I", "Term II", "Term III", "Constants"));
        for (int p = 1; p <= LAST_PROMISE; p++) {
            missing.add("Promise " + p);
        }
        for (Edge edge : EDGES) {
            missing.remove(edge.where());
        }
        due("terms and promises without a test", missing, List.of());
        Set<String> named = new HashSet<>();
        for (Edge edge : EDGES) {
            String name = edge.where() + ", " + edge.sentence();
            due("the first test of " + name, named.add(name), true);
        }
    }

    private static void everySentenceIsTheDocuments() throws IOException {
        if (!Files.isReadable(DOCUMENT)) {
            System.out.println(DOCUMENT + " is not here: its sentences are not looked up");
            return;
        }
        String document = Files.readString(DOCUMENT);
        for (Edge edge : EDGES) {
            String said = plainly(partOf(document, edge.where()));
            due(edge.where() + " says \"" + edge.sentence() + "\"", said.contains(plainly(edge.sentence())), true);
        }
    }

    private static String partOf(String document, String where) {
        switch (where) {
            case "What it is": return between(document, "## What it is", "## The public face");
            case "Term I": return between(document, "\nI. ", "\nII. ");
            case "Term II": return between(document, "\nII. ", "\nIII. ");
            case "Term III": return between(document, "\nIII. ", "\nThe constants:");
            case "Constants": return between(document, "\nThe constants:", "\nAhead of the calls");
            default: return between(document, "## " + where + ":", "\n## ");
        }
    }

    private static String between(String document, String from, String to) {
        int begin = document.indexOf(from);
        int end = begin < 0 ? -1 : document.indexOf(to, begin + from.length());
        return begin < 0 ? "" : document.substring(begin, end < 0 ? document.length() : end);
    }

    private static String plainly(String text) {
        return text.replaceAll("\\s+", " ").trim();
    }

    // ---- helpers

    private static void of(String where, String sentence, Runnable test) {
        EDGES.add(new Edge(where, sentence, test));
    }

    private static void due(String call, Object got, Object want) {
        asked++;
        if (!got.equals(want)) {
            wrong++;
            System.out.println(running.where() + ", \"" + running.sentence() + "\": " + call + " answered " + got
                + ", due is " + want);
        }
    }

    private static int four(String text, int from) {
        int packed = 0;
        for (int i = from; i < from + 4; i++) {
            packed = packed << 8 | (i < text.length() ? text.charAt(i) : 0);
        }
        return packed;
    }

    private static int add(CaretBench bench, String text) {
        int answer = 0;
        for (int i = 0; i < text.length(); i += 16) {
            answer = bench.put(four(text, i), four(text, i + 4), four(text, i + 8), four(text, i + 12));
        }
        return answer;
    }

    private static CaretBench line(String text) {
        CaretBench bench = new CaretBench();
        add(bench, text);
        return bench;
    }

    private static CaretBench backward(String text) {
        CaretBench bench = line(text);
        bench.way(1);
        return bench;
    }

    private static CaretBench at(CaretBench bench, int stand, int side) {
        if (!bench.go(stand, side)) {
            due("go(" + stand + ", " + side + ")", false, true);
        }
        return bench;
    }

    private static String text(CaretBench bench) {
        StringBuilder text = new StringBuilder();
        int length = bench.count(0);
        for (int i = 0; i < length; i++) {
            text.append((char) bench.sign(i));
        }
        return text.toString();
    }

    private static String levelsOf(CaretBench bench) {
        StringBuilder levels = new StringBuilder();
        int length = bench.count(0);
        for (int i = 0; i < length; i++) {
            levels.append(i == 0 ? "" : " ").append(bench.level(i));
        }
        return levels.toString();
    }

    private static void levels(String text, String want) {
        due("levels of \"" + text + "\"", levelsOf(line(text)), want);
    }

    private static void levelsBackward(String text, String want) {
        due("levels of \"" + text + "\" in a BACKWARD line", levelsOf(backward(text)), want);
    }

    private static void clustersOf(String text, String want) {
        CaretBench bench = line(text);
        StringBuilder all = new StringBuilder();
        int number = bench.count(1);
        for (int k = 0; k < number; k++) {
            int first = bench.cluster(k, 0);
            all.append(k == 0 ? "" : "|").append(text, first, first + bench.cluster(k, 1));
        }
        due("clusters of \"" + text + "\"", all.toString(), want);
    }

    private static void joined(String text, String want) {
        CaretBench bench = line(text);
        StringBuilder all = new StringBuilder();
        int number = bench.count(1);
        for (int k = 0; k < number; k++) {
            all.append(bench.cluster(k, 5));
        }
        due("which clusters of \"" + text + "\" are joined", all.toString(), want);
    }

    private static void standsOf(String text, String want) {
        CaretBench bench = line(text);
        StringBuilder all = new StringBuilder();
        for (int s = -1; s <= text.length() + 1; s++) {
            if (bench.go(s, 0)) {
                all.append(all.length() == 0 ? "" : " ").append(s);
            }
        }
        due("stands of \"" + text + "\"", all.toString(), want);
        due("how many stands \"" + text + "\" has", bench.count(2), want.split(" ").length);
    }

    private static String sightOf(CaretBench bench) {
        StringBuilder sight = new StringBuilder();
        int number = bench.count(1);
        for (int v = 0; v < number; v++) {
            sight.append((char) bench.seen(v));
        }
        return sight.toString();
    }

    private static void widthOf(String text, int want) {
        due("width of \"" + text + "\"", line(text).count(3), want);
    }

    private static String where(CaretBench bench) {
        return bench.caret(0) + "/" + bench.caret(1);
    }

    private static void caretIs(CaretBench bench, String want) {
        due("the caret (stand/side)", where(bench), want);
    }

    private static void caretIsAt(CaretBench bench, String want) {
        due("the caret (stand/side@x)", where(bench) + "@" + bench.caret(2), want);
    }

    private static void lineIs(CaretBench bench, String want) {
        due("the line", text(bench), want);
    }

    private static String piecesOf(CaretBench bench) {
        StringBuilder pieces = new StringBuilder();
        for (int k = 0; k < 60 && bench.piece(k, 0) != NONE; k++) {
            pieces.append(k == 0 ? "" : " ").append(bench.piece(k, 0)).append('-').append(bench.piece(k, 1));
        }
        return pieces.toString();
    }

    /* The levels tell the line's way too: way() itself cannot be asked without setting it. */
    private static String whole(CaretBench bench) {
        return "\"" + text(bench) + "\" " + levelsOf(bench) + " base " + bench.count(5) + " caret " + where(bench)
            + "@" + bench.caret(2) + " pieces " + piecesOf(bench);
    }

    private static void refused(CaretBench bench, String call, Supplier<Object> answer, Object want) {
        String before = whole(bench);
        due(call, answer.get(), want);
        due("what stands behind " + call, whole(bench), before);
    }

    private static void moves(CaretBench bench, String call, boolean answer, String want) {
        due(call, answer, true);
        due("the caret behind " + call, where(bench), want);
    }

    private static void staysAt(CaretBench bench, String call, boolean answer, String want) {
        due(call, answer, false);
        due("the caret behind " + call, where(bench), want);
    }

    // ---- What it is

    private static void whatItIs() {
        of("What it is", "An object is used for at most 512 calls after it has been made", () -> {
            CaretBench b = new CaretBench();
            for (int call = 0; call < 508; call += 4) {
                due("type('a') as call " + (call + 1), b.type('a'), true);
                due("caret(0) as call " + (call + 2), b.caret(0), 1);
                due("back() as call " + (call + 3), b.back(), 1);
                due("count(0) as call " + (call + 4), b.count(0), 0);
            }
            due("type('b') as call 509", b.type('b'), true);
            due("back() as call 510", b.back(), 1);
            due("undo() as call 511", b.undo(), 7);
            due("sign(0) as call 512", b.sign(0), (int) 'b');
        });
        of("Constants", "`NONE = -1`: There is none; it is refused.", () -> {
            due("NONE", CaretBench.NONE, -1);
            due("sign(0) of an empty line", new CaretBench().sign(0), CaretBench.NONE);
            due("way(2)", new CaretBench().way(2), CaretBench.NONE);
        });
    }

    // ---- Term I

    private static void signsOfTheLine() {
        of("Term I", "THE LINE has up to 60 SIGNS", () -> {
            String full = "a".repeat(59) + "Z";
            CaretBench b = new CaretBench();
            due("put of 60 signs", add(b, full), 60);
            due("count(0)", b.count(0), 60);
            due("sign(0)", b.sign(0), (int) 'a');
            due("sign(59)", b.sign(59), (int) 'Z');
            due("sign(60)", b.sign(60), NONE);
            due("put of one sign more", b.put('b', 0, 0, 0), -2);
            due("type of one sign more", b.type('b'), false);
            lineIs(b, full);
            CaretBench typed = new CaretBench();
            for (int i = 1; i <= 60; i++) {
                due("type of sign " + i, typed.type('!'), true);
            }
            due("type of sign 61", typed.type('!'), false);
            due("count(0)", typed.count(0), 60);
        });
        of("Term I", "letters a .. z (FORWARD) and A .. Z (BACKWARD), digits 0 .. 9", () -> {
            levels("amzAMZ", "0 0 0 1 1 1");
            levelsBackward("amzAMZ", "2 2 2 1 1 1");
            levels("A059", "1 2 2 2");
            widthOf("azAZ", 40);
            widthOf("09", 16);
            for (char beside : "`@/:".toCharArray()) {
                due("put of '" + beside + "'", new CaretBench().put(beside, 0, 0, 0), -1);
            }
        });
        of("Term I", "+ - , . (between digits), blank (32), MARKS ' and ~ , ^ , ( ) < > !", () -> {
            for (int sign = 1; sign < 256; sign++) {
                boolean known = SIGNS.indexOf(sign) >= 0;
                due("put of byte " + sign, new CaretBench().put(sign << 24, 0, 0, 0), known ? 1 : -1);
            }
            due("put of byte 32", new CaretBench().put(32, 0, 0, 0), 1);
        });
        of("Term I", "THE LINE is FORWARD (0) or BACKWARD (1).", () -> {
            CaretBench b = new CaretBench();
            due("way(1)", b.way(1), 0);
            due("way(0)", b.way(0), 1);
            due("way(-1)", b.way(-1), NONE);
            due("way(2)", b.way(2), NONE);
            due("way(0) again", b.way(0), 0);
        });
    }

    private static void isles() {
        of("Term I", "] (the ISLE that began last and is open ends; if none is open, it is a plain sign)", () -> {
            levels("[{a]b]c", "0 2 4 2 2 0 0");
            levels("{[A]1]2", "0 1 3 1 2 0 0");
            levels("]A", "0 1");
            levels("A]B", "1 1 1");
            levels("a]B", "0 0 1");
            levels("[A]]B", "0 3 0 0 1");
            levels("[]]]a", "0 0 0 0 0");
            levelsBackward("a]b", "2 2 2");
            levelsBackward("]a", "1 2");
            due("rows of \"]]a\"", line("]]a").count(4), 1);
            due("rows of \"[A]]B\"", line("[A]]B").count(4), 2);
            due("rows of 60 times ]", line("]".repeat(60)).count(4), 1);
        });
        of("Term I", "An ISLE that does not end goes up to the LINE's end.", () -> {
            levels("A[bC", "1 0 2 3");
            levels("[a{B", "0 2 2 3");
            levels("[{a]B", "0 2 4 2 3");
            CaretBench full = line("{" + "a".repeat(59));
            due("level(1) of { and 59 letters", full.level(1), 2);
            due("level(59) of { and 59 letters", full.level(59), 2);
        });
        of("Term I", "base 0 in a FORWARD LINE, 1 in a BACKWARD one", () -> {
            levels("!", "0");
            levelsBackward("!", "1");
            due("count(5) of an empty line", line("").count(5), 0);
            due("count(5) of an empty BACKWARD line", backward("").count(5), 1);
        });
        of("Term I",
            "within an ISLE the base is the least number above the base around it that is even for a"
            + " FORWARD one, odd for a BACKWARD one.", () -> {
            levels("[!", "0 2");
            levels("{!", "0 1");
            levels("{[!", "0 1 2");
            levels("{{!", "0 1 3");
            levels("[{!", "0 2 3");
            levels("[[!", "0 2 4");
            levelsBackward("[!", "1 2");
            levelsBackward("{!", "1 3");
            due("level(59) in 59 times [", line("[".repeat(59) + "!").level(59), 118);
            due("level(59) in 59 times {", line("{".repeat(59) + "!").level(59), 117);
            due("level(59) in 59 times [, BACKWARD", backward("[".repeat(59) + "!").level(59), 118);
            due("level(59) in 59 times {, BACKWARD", backward("{".repeat(59) + "!").level(59), 119);
            due("level(59) in [ and { by turns", line("[{".repeat(29) + "[!").level(59), 60);
            due("level(59) in { and [ by turns", line("{[".repeat(29) + "{!").level(59), 59);
        });
        of("Term I", "ISLE signs that begin or end one belong to what is around it.", () -> {
            levels("A[b]C", "1 1 2 1 1");
            levels("a{B]c", "0 0 1 0 0");
            levels("A[]C", "1 1 1 1");
            levels("A[{]]C", "1 1 2 2 1 1");
            due("rows of \"[]\"", line("[]").count(4), 1);
        });
    }

    private static void rows() {
        of("Term I",
            "A ROW is all that stands in the same ISLE (or in none), in order, without what is within"
            + " ISLES in it.", () -> {
            levels("A[b]1", "1 1 2 1 2");
            levels("a{B]1", "0 0 1 0 0");
            levels("[A][1]!", "0 3 0 0 2 0 0");
            levels("A1[a]+2", "1 2 1 2 1 1 2");
            levels("A![b]!B", "1 1 1 2 1 1 1");
            levels("A![b]!b", "1 0 0 2 0 0 0");
        });
        of("Term I", "A ROW's own WAY: FORWARD, if its base is even.", () -> {
            levels("1", "0");
            levelsBackward("1", "2");
            levels("[1", "0 2");
            levels("{1", "0 2");
            levels("{[1", "0 1 2");
            levels("[{1", "0 2 4");
            levelsBackward("[1", "1 2");
            levelsBackward("{1", "1 4");
        });
    }

    private static void marksAndSeparators() {
        of("Term I",
            "a MARK is what the SIGN ahead of it in the ROW is (a letter FORWARD or BACKWARD, and so on", () -> {
            levels("A'b", "1 1 0");
            levels("a'B", "0 0 1");
            levels("A'~'b", "1 1 1 1 0");
            levels("A1'", "1 2 2");
            levels("A 'B", "1 1 1 1");
            levels("A !'b", "1 0 0 0 0");
            levels("A[b]'C", "1 1 2 1 1 1");
            levels("A1'+2", "1 2 2 2 2");
            levels("A1+'2", "1 2 1 1 2");
        });
        of("Term I", "an ISLE sign counts as plain", () -> {
            levels("A[]'b", "1 0 0 0 0");
            levels("A[]'B", "1 1 1 1 1");
            levels("A]'C", "1 1 1 1");
            levels("A]'c", "1 0 0 0");
            levelsBackward("a[b]'c", "2 2 2 2 2 2");
        });
        of("Term I", "without one ahead: the ROW's WAY", () -> {
            levels("'A", "0 1");
            levels("''A", "0 0 1");
            levels("~A", "0 1");
            levelsBackward("'a", "1 2");
            levelsBackward("''a", "1 1 2");
            levels("A['", "1 0 2");
            levels("A[']B", "1 1 2 1 1");
            levels("a{'", "0 0 1");
            levels("a{'b", "0 0 1 2");
            levels("{'1", "0 1 2");
            levels("['1", "0 2 2");
        });
        of("Term I", "A ^ that JOINS (II) is what the letter ahead of it is.", () -> {
            levels("A^B", "1 1 1");
            levels("a^b", "0 0 0");
            levelsBackward("a^b", "2 2 2");
            levelsBackward("A^B", "1 1 1");
            levels("Ba^b", "1 0 0 0");
            levels("bA^B", "0 1 1 1");
            levels("A^b", "1 0 0");
            levels("A^", "1 0");
        });
        of("Term I", "(2) one + or - , or one , or . , at once between two digits of the ROW is a digit", () -> {
            for (char sign : "+-,.".toCharArray()) {
                levels("A1" + sign + "2", "1 2 2 2");
                levelsBackward("1" + sign + "2", "2 2 2");
            }
            levels("A1+2-3,4.5", "1 2 2 2 2 2 2 2 2 2");
            levels("A1+2B", "1 2 2 2 1");
        });
        of("Term I", "others of these are plain.", () -> {
            for (String two : new String[] {"++", "+-", "-+", ",.", "..", "+."}) {
                levels("A1" + two + "2", "1 2 1 1 2");
            }
            levels("A+1", "1 1 2");
            levels("A1+B", "1 2 1 1");
            levels("A1+", "1 2 0");
            levels("A1+b", "1 2 0 0");
            levels("+A", "0 1");
            levelsBackward("+1", "1 2");
            levelsBackward("1+", "2 1");
            levels("A1+[]2", "1 2 1 1 1 2");
            levels("A1 +2", "1 2 1 1 2");
            levels("A1+ 2", "1 2 1 1 2");
            levels("A1![+]2", "1 2 1 1 2 1 2");
        });
    }

    private static void digitsAndPlainOnes() {
        of("Term I",
            "(3) a digit is FORWARD, if of the FORWARD and BACKWARD ones ahead of it in the ROW the last"
            + " one is FORWARD, or if there is none and the ROW's WAY is FORWARD.", () -> {
            levels("Aa1", "1 0 0");
            levels("aA1", "0 1 2");
            levels("a! 1", "0 0 0 0");
            levels("A! 1", "1 1 1 2");
            levels("1A", "0 1");
            levels("1!1A", "0 0 0 1");
            levels("A[1]", "1 0 2 0");
            levels("a{1!1", "0 0 2 1 2");
            levels("A[]1", "1 1 1 2");
            levelsBackward("1!1", "2 1 2");
            levelsBackward("a1!1", "2 2 2 2");
            levelsBackward("aA1!1", "2 1 2 1 2");
        });
        of("Term I",
            "FORWARD, if on both sides of them is FORWARD, BACKWARD, if on both is BACKWARD or a digit", () -> {
            levels("a!b", "0 0 0");
            levels("A!B", "1 1 1");
            levels("A!1", "1 1 2");
            levels("A1!B", "1 2 1 1");
            levels("A1!2", "1 2 1 2");
            levels("A! !B", "1 1 1 1 1");
            levelsBackward("a!b", "2 2 2");
            levelsBackward("a! !1", "2 2 2 2 2");
            levelsBackward("A!B", "1 1 1");
        });
        of("Term I", "(at the ROW's ends its WAY counts as being there)", () -> {
            levels("!A", "0 1");
            levels("A!", "1 0");
            levels("!", "0");
            levels("[!A", "0 2 3");
            levels("[A!]", "0 3 2 0");
            levels("A{!b", "1 0 1 2");
            levels("{!B", "0 1 1");
            levels("{a!]b", "0 2 1 0 0");
            levels("{A!]b", "0 1 1 0 0");
            levelsBackward("!a", "1 2");
            levelsBackward("a!", "2 1");
            levelsBackward("!A", "1 1");
            levelsBackward("1!", "2 1");
            levelsBackward("[!a!]", "1 2 2 2 1");
        });
        of("Term I", "else the ROW's WAY.", () -> {
            levels("A!b", "1 0 0");
            levels("a!B", "0 0 1");
            levels("A1!b", "1 2 0 0");
            levels("A! !b", "1 0 0 0 0");
            levelsBackward("A!b", "1 1 2");
            levelsBackward("a!B", "2 1 1");
            levelsBackward("A1!b", "1 2 1 2");
            levels("{A!b", "0 1 1 2");
            levels("[A!b", "0 3 2 2");
        });
    }

    private static void levelsAndTheEnd() {
        of("Term I",
            "LEVELS: in a ROW with an even base: FORWARD the base, BACKWARD 1 more, digits 2 more; with"
            + " an odd one: BACKWARD the base, FORWARD and digits 1 more.", () -> {
            levels("aA1", "0 1 2");
            levels("[aA1", "0 2 3 4");
            levels("{Aa", "0 1 2");
            levels("{A1", "0 1 2");
            levels("[{A1a", "0 2 3 4 4");
            levelsBackward("A1a", "1 2 2");
            levelsBackward("{A1a", "1 3 4 4");
            due("level(59) of A in 59 times [", line("[".repeat(59) + "A").level(59), 119);
            due("level(59) of 1 in 58 times [", line("[".repeat(58) + "A1").level(59), 118);
            due("level(59) of a in 59 times {, BACKWARD", backward("{".repeat(59) + "a").level(59), 120);
        });
        of("Term I",
            "At last blanks and [ { ] at the LINE's end (nothing else behind them) have the LINE's base.", () -> {
            levels("A ", "1 0");
            levels("A   ", "1 0 0 0");
            levels("A]", "1 0");
            levels("{A ]", "0 1 0 0");
            levels("{A[", "0 1 0");
            levels("{A{", "0 1 0");
            levels("{A[]", "0 1 0 0");
            levels("{ A ", "0 1 1 0");
            levels("{" + " ".repeat(59), "0" + " 0".repeat(59));
            levels("{[{[ ", "0 0 0 0 0");
            levelsBackward("a ", "2 1");
            levelsBackward("a [", "2 1 1");
            levelsBackward("[a ]", "1 2 1 1");
            levelsBackward("[ [", "1 1 1");
            levels("A  B", "1 1 1 1");
            levels("{A !", "0 1 1 1");
            levels("{A[!", "0 1 1 2");
            levels("{A[]B", "0 1 1 1 1");
        });
    }

    // ---- Term II

    private static void clusters() {
        of("Term II", "CLUSTERS: a SIGN and all MARKS behind it", () -> {
            clustersOf("a'b~'c", "a'|b~'|c");
            clustersOf("1'2", "1'|2");
            clustersOf(" '!~", " '|!~");
            clustersOf("['a]'", "['|a|]'");
            clustersOf("^'", "^'");
            CaretBench full = line("a" + "'".repeat(59));
            due("clusters of a letter and 59 marks", full.count(1), 1);
            due("cluster(0, 1) of a letter and 59 marks", full.cluster(0, 1), 60);
            due("clusters of 60 letters", line("a".repeat(60)).count(1), 60);
        });
        of("Term II", "(MARKS at the LINE's beginning: each one)", () -> {
            clustersOf("'", "'");
            clustersOf("'~'a'", "'|~|'|a'");
            clustersOf("''a''", "'|'|a''");
            CaretBench full = line("'".repeat(60));
            due("clusters of 60 marks", full.count(1), 60);
            due("stands of 60 marks", full.count(2), 61);
            due("cluster(59, 1) of 60 marks", full.cluster(59, 1), 1);
        });
        of("Term II", "letter, ^ , letter and all MARKS behind these are one JOINED CLUSTER.", () -> {
            clustersOf("a^b", "a^b");
            clustersOf("a^b'~c", "a^b'~|c");
            clustersOf("xA^B'", "x|A^B'");
            CaretBench full = line("a^b" + "~".repeat(57));
            due("clusters of a joined one with 57 marks", full.count(1), 1);
            due("cluster(0, 1) of it", full.cluster(0, 1), 60);
            due("cluster(0, 5) of it", full.cluster(0, 5), 1);
        });
    }

    private static void joining() {
        of("Term II",
            "A ^ JOINS, if a letter is at once ahead of it and one of the same WAY at once behind it", () -> {
            for (String text : new String[] {"a^b", "A^B", "z^a", "Z^A", "a^a"}) {
                clustersOf(text, text);
                joined(text, "1");
            }
            clustersOf("^a", "^|a");
            clustersOf("a^", "a|^");
            clustersOf("^", "^");
            clustersOf("a'^b", "a'|^|b");
            clustersOf("a^'b", "a|^'|b");
            clustersOf("a^B", "a|^|B");
            clustersOf("A^b", "A|^|b");
            clustersOf("1^2", "1|^|2");
            clustersOf("a^1", "a|^|1");
            clustersOf("1^a", "1|^|a");
            clustersOf("a^^b", "a|^|^|b");
            clustersOf("a ^b", "a| |^|b");
            clustersOf("a^[b", "a|^|[|b");
            joined("a^B^c", "00000");
            CaretBench parted = at(line("ab^c"), 4, 0);
            due("back() over b^c", parted.back(), 3);
            parted.type('b');
            due("cluster(1, 5) of \"ab\" where \"ab^c\" was", parted.cluster(1, 5), 0);
            CaretBench full = line("!".repeat(57) + "a^b");
            due("clusters of a full line with a joined one at its end", full.count(1), 58);
            due("clusters of a full line that ends with a^", line("!".repeat(58) + "a^").count(1), 60);
        });
        of("Term II", "and the letter ahead is not behind a ^ that JOINS", () -> {
            clustersOf("a^b^c", "a^b|^|c");
            joined("a^b^c", "100");
            clustersOf("a^b^c^d", "a^b|^|c^d");
            clustersOf("ab^c^d", "a|b^c|^|d");
            clustersOf("A^b^c", "A|^|b^c");
            clustersOf("a^bc^d", "a^b|c^d");
            CaretBench full = line("a^".repeat(30));
            due("clusters of 30 times a^", full.count(1), 30);
            due("stands of 30 times a^", full.count(2), 46);
            due("width of 30 times a^", full.count(3), 330);
        });
    }

    private static void widthsAndSight() {
        of("Term II", "WIDTHS: letters 10, digits 8, blanks 5, JOINED 16, others 6 (MARKS of a CLUSTER 0).", () -> {
            widthOf("", 0);
            widthOf("a", 10);
            widthOf("Z", 10);
            widthOf("0", 8);
            widthOf("9", 8);
            widthOf(" ", 5);
            widthOf("a^b", 16);
            widthOf("A^B", 16);
            for (char other : "+-,.^()<>![{]".toCharArray()) {
                widthOf(String.valueOf(other), 6);
            }
            widthOf("a''~", 10);
            widthOf("1'", 8);
            widthOf(" '", 5);
            widthOf("a^b'~", 16);
            widthOf("a" + "'".repeat(59), 10);
            widthOf("a".repeat(60), 600);
        });
        of("Term II", "SIGHT: CLUSTERS by the LEVELS of their first SIGNS", () -> {
            CaretBench marked = backward("a['");
            due("levels of \"a['\" in a BACKWARD line", levelsOf(marked), "2 1 2");
            due("cluster(1, 2) of \"a['\"", marked.cluster(1, 2), 1);
            due("sight of \"a['\", BACKWARD", sightOf(marked), "[a");
            due("cluster(0, 2) of \"['\"", line("['").cluster(0, 2), 0);
        });
        of("Term II",
            "from the highest LEVEL down to 1, all that stand side by side with that LEVEL or above it"
            + " are turned round", () -> {
            due("sight of \"ab\"", sightOf(line("ab")), "ab");
            due("sight of \"AB\"", sightOf(line("AB")), "BA");
            due("sight of \"A12B\"", sightOf(line("A12B")), "B12A");
            due("sight of \"aABbCD\"", sightOf(line("aABbCD")), "aBAbDC");
            due("sight of \"\"", sightOf(line("")), "");
            due("sight of \"ab\", BACKWARD", sightOf(backward("ab")), "ab");
            due("sight of \"Ab\", BACKWARD", sightOf(backward("Ab")), "bA");
            due("sight of \"ABc\", BACKWARD", sightOf(backward("ABc")), "cBA");
            StringBuilder capitals = new StringBuilder();
            for (int i = 0; i < 60; i++) {
                capitals.append((char) ('A' + i % 26));
            }
            String turned = new StringBuilder(capitals).reverse().toString();
            due("sight of 60 capitals", sightOf(line(capitals.toString())), turned);
            CaretBench deep = line("[".repeat(58) + "AB");
            due("seen(58) at level 117", deep.seen(58), (int) 'B');
            due("seen(59) at level 117", deep.seen(59), (int) 'A');
        });
        of("Term II", "from the left on they stand at x 0, and each at the end of the one to its left.", () -> {
            CaretBench b = line("a B1 c");
            int[] lefts = {0, 10, 23, 15, 33, 38};
            for (int k = 0; k < lefts.length; k++) {
                due("cluster(" + k + ", 3) of \"a B1 c\"", b.cluster(k, 3), lefts[k]);
            }
            due("width of all", b.count(3), 48);
            CaretBench full = line("a".repeat(60));
            due("cluster(0, 3) of 60 letters", full.cluster(0, 3), 0);
            due("cluster(59, 3) of 60 letters", full.cluster(59, 3), 590);
            CaretBench turned = line("A".repeat(60));
            due("cluster(0, 3) of 60 capitals", turned.cluster(0, 3), 590);
            due("cluster(59, 3) of 60 capitals", turned.cluster(59, 3), 0);
        });
    }

    private static void stands() {
        of("Term II",
            "STANDS: between CLUSTERS (numbered by how many SIGNS are ahead), at both ends, and within a"
            + " JOINED one, ahead of its second letter.", () -> {
            standsOf("", "0");
            standsOf("a", "0 1");
            standsOf("a'b^c'd", "0 2 4 6 7");
            standsOf("a^b", "0 2 3");
            standsOf("a^b''", "0 2 5");
            standsOf("a^B", "0 1 2 3");
            standsOf("''a'", "0 1 2 4");
            due("stands of 60 letters", line("a".repeat(60)).count(2), 61);
            due("go(60, 0) in 60 letters", line("a".repeat(60)).go(60, 0), true);
            due("go(61, 0) in 60 letters", line("a".repeat(60)).go(61, 0), false);
        });
        of("Term II", "(within a JOINED CLUSTER 0 alone)", () -> {
            CaretBench b = at(line("a^b"), 0, 1);
            due("go(2, 1) within a joined one", b.go(2, 1), false);
            caretIs(b, "0/1");
            due("go(2, 0) within a joined one", b.go(2, 0), true);
            caretIs(b, "2/0");
            b.go(3, 0);
            moves(b, "on(false) into a joined one", b.on(false), "2/0");
        });
        of("Term II",
            "of SIDE 1: of the CLUSTER behind, its left side, if its LEVEL is even, else its right side;"
            + " of SIDE 0: of the CLUSTER ahead, its right side, if its LEVEL is even, else its left one", () -> {
            caretIsAt(at(line("aB1"), 0, 1), "0/1@0");
            caretIsAt(at(line("aB1"), 1, 0), "1/0@10");
            caretIsAt(at(line("aB1"), 1, 1), "1/1@28");
            caretIsAt(at(line("aB1"), 2, 0), "2/0@18");
            caretIsAt(at(line("aB1"), 2, 1), "2/1@10");
            caretIsAt(at(line("aB1"), 3, 0), "3/0@18");
        });
    }

    private static void caretsPlace() {
        of("Term II",
            "without a CLUSTER there: the left end of all at the beginning of a FORWARD LINE and at the"
            + " end of a BACKWARD one, else the right end.", () -> {
            caretIsAt(at(line("AB"), 0, 0), "0/0@0");
            caretIsAt(at(line("AB"), 2, 1), "2/1@20");
            caretIsAt(at(line("ab"), 0, 0), "0/0@0");
            caretIsAt(at(line("ab"), 2, 1), "2/1@20");
            caretIsAt(at(backward("ab"), 0, 0), "0/0@20");
            caretIsAt(at(backward("ab"), 2, 1), "2/1@0");
            caretIsAt(at(backward("AB"), 0, 0), "0/0@20");
            caretIsAt(at(backward("AB"), 2, 1), "2/1@0");
            caretIsAt(at(line(""), 0, 0), "0/0@0");
            caretIsAt(at(line(""), 0, 1), "0/1@0");
            caretIsAt(at(backward(""), 0, 0), "0/0@0");
            caretIsAt(at(backward(""), 0, 1), "0/1@0");
            caretIsAt(at(line("A".repeat(60)), 60, 1), "60/1@600");
            caretIsAt(at(backward("a".repeat(60)), 0, 0), "0/0@600");
        });
        of("Term II", "Within a JOINED CLUSTER: its middle.", () -> {
            caretIsAt(at(line("a^b"), 2, 0), "2/0@8");
            caretIsAt(at(line("1a^b"), 3, 0), "3/0@16");
            caretIsAt(at(line("A^B1"), 2, 0), "2/0@16");
            caretIsAt(at(line("a^b'"), 2, 0), "2/0@8");
            caretIsAt(at(line("!".repeat(57) + "a^b"), 59, 0), "59/0@350");
        });
    }

    private static void caretBehindAChange() {
        of("Term II",
            "Behind each change of THE LINE a CARET whose STAND is none any more goes to the next one"
            + " with SIDE 0", () -> {
            CaretBench marked = at(line("a"), 1, 1);
            marked.put('\'', 0, 0, 0);
            caretIs(marked, "2/0");
            CaretBench manyMarks = at(line("a"), 1, 1);
            add(manyMarks, "'~'b");
            caretIs(manyMarks, "4/0");
            CaretBench joinedByPut = at(line("a"), 1, 1);
            add(joinedByPut, "^b");
            caretIs(joinedByPut, "2/0");
            CaretBench typedAheadOfMark = at(line("'"), 0, 1);
            typedAheadOfMark.type('a');
            caretIs(typedAheadOfMark, "2/0");
            CaretBench typedAheadOfJoiner = at(line("^b"), 0, 1);
            typedAheadOfJoiner.type('a');
            caretIs(typedAheadOfJoiner, "2/0");
            CaretBench cutToJoin = line("a1^b");
            due("cut(1, 2) of \"a1^b\"", cutToJoin.cut(1, 2), 1);
            caretIs(cutToJoin, "2/0");
            CaretBench aheadToJoin = at(line("aX^b"), 1, 1);
            due("ahead() at 1 of \"aX^b\"", aheadToJoin.ahead(), 1);
            caretIs(aheadToJoin, "2/0");
            CaretBench backToJoin = at(line("aX^b"), 2, 1);
            due("back() at 2 of \"aX^b\"", backToJoin.back(), 1);
            caretIs(backToJoin, "2/0");
            CaretBench atTheEnd = at(line("a".repeat(57)), 57, 1);
            add(atTheEnd, "'''");
            caretIs(atTheEnd, "60/0");
        });
        of("Term II", "and within a JOINED CLUSTER its SIDE is 0.", () -> {
            CaretBench joinedByPut = at(line("a^"), 2, 1);
            joinedByPut.put('b', 0, 0, 0);
            caretIsAt(joinedByPut, "2/0@8");
            CaretBench joinedByBack = at(line("a^Xb"), 3, 1);
            due("back() at 3 of \"a^Xb\"", joinedByBack.back(), 1);
            caretIs(joinedByBack, "2/0");
            CaretBench backOverMark = at(line("a^'b"), 3, 1);
            due("back() at 3 of \"a^'b\"", backOverMark.back(), 1);
            caretIs(backOverMark, "2/0");
        });
    }

    // ---- Term III

    private static void movingBySense() {
        of("Term III", "BY SENSE the CARET goes to the next STAND (SIDE 0), back to the one before (SIDE 1).", () -> {
            CaretBench b = at(line("a^b'c"), 0, 1);
            moves(b, "on(true) from 0", b.on(true), "2/0");
            moves(b, "on(true) from 2", b.on(true), "4/0");
            moves(b, "on(true) from 4", b.on(true), "5/0");
            staysAt(b, "on(true) from 5", b.on(true), "5/0");
            moves(b, "on(false) from 5", b.on(false), "4/1");
            moves(b, "on(false) from 4", b.on(false), "2/0");
            moves(b, "on(false) from 2", b.on(false), "0/1");
            staysAt(b, "on(false) from 0", b.on(false), "0/1");
            CaretBench turned = at(backward("Ab"), 1, 1);
            moves(turned, "on(true) in a BACKWARD line", turned.on(true), "2/0");
        });
    }

    private static void movingBySight() {
        of("Term III", "BY SIGHT, to the right: if it is within a JOINED CLUSTER, to that one's right side", () -> {
            CaretBench even = at(line("a^b"), 2, 0);
            moves(even, "step(true) within a^b", even.step(true), "3/0");
            CaretBench odd = at(line("A^Bc"), 2, 0);
            moves(odd, "step(true) within A^B", odd.step(true), "0/1");
            due("its x", odd.caret(2), 16);
            CaretBench marked = at(line("a^b''"), 2, 0);
            moves(marked, "step(true) within a^b''", marked.step(true), "5/0");
        });
        of("Term III", "else over the CLUSTER whose left side is at its x (none, if it is at the right end)", () -> {
            for (int side = 0; side < 2; side++) {
                CaretBench empty = at(line(""), 0, side);
                staysAt(empty, "step(true) in an empty line", empty.step(true), "0/" + side);
                CaretBench end = at(line("ab"), 2, side);
                staysAt(end, "step(true) at the end of \"ab\"", end.step(true), "2/" + side);
                CaretBench turned = at(backward("AB"), 0, side);
                staysAt(turned, "step(true) at the beginning of \"AB\", BACKWARD", turned.step(true), "0/" + side);
            }
            CaretBench withBehind = at(line("AB"), 0, 1);
            staysAt(withBehind, "step(true) at 0/1 of \"AB\"", withBehind.step(true), "0/1");
            CaretBench pastEnd = at(line("AB"), 2, 1);
            staysAt(pastEnd, "step(true) at 2/1 of \"AB\"", pastEnd.step(true), "2/1");
            CaretBench withAhead = at(backward("ab"), 2, 0);
            staysAt(withAhead, "step(true) at 2/0 of \"ab\", BACKWARD", withAhead.step(true), "2/0");
            CaretBench left = at(line("AB"), 0, 0);
            moves(left, "step(true) at 0/0 of \"AB\"", left.step(true), "1/1");
            moves(left, "step(true) at 1/1 of \"AB\"", left.step(true), "0/1");
            CaretBench full = at(line("a".repeat(60)), 60, 0);
            staysAt(full, "step(true) at the end of 60 letters", full.step(true), "60/0");
        });
        of("Term III", "to its middle, if that is JOINED, else to its right side.", () -> {
            CaretBench b = line("1a^b2");
            moves(b, "step(true) over 1", b.step(true), "1/0");
            moves(b, "step(true) into a^b", b.step(true), "3/0");
            moves(b, "step(true) out of a^b", b.step(true), "4/0");
            moves(b, "step(true) over 2", b.step(true), "5/0");
            CaretBench turned = line("A^B");
            moves(turned, "step(true) into A^B", turned.step(true), "2/0");
        });
        of("Term III",
            "To a CLUSTER's right side is: behind it with SIDE 0, if its LEVEL is even, else ahead of it"
            + " with SIDE 1.", () -> {
            CaretBench zero = line("a");
            moves(zero, "step(true) over level 0", zero.step(true), "1/0");
            CaretBench one = line("A");
            moves(one, "step(true) over level 1", one.step(true), "0/1");
            CaretBench two = at(backward("a"), 0, 1);
            moves(two, "step(true) over level 2", two.step(true), "1/0");
            CaretBench three = at(backward("{A"), 2, 0);
            moves(three, "step(true) over level 3", three.step(true), "1/1");
        });
        of("Term III",
            "To the left likewise (to its left side: ahead of it with SIDE 1, if even, else behind it"
            + " with SIDE 0).", () -> {
            CaretBench within = at(line("a^b"), 2, 0);
            moves(within, "step(false) within a^b", within.step(false), "0/1");
            CaretBench withinTurned = at(line("A^B"), 2, 0);
            moves(withinTurned, "step(false) within A^B", withinTurned.step(false), "3/0");
            CaretBench into = at(line("a^b"), 3, 0);
            moves(into, "step(false) into a^b", into.step(false), "2/0");
            CaretBench even = at(line("a"), 1, 0);
            moves(even, "step(false) over level 0", even.step(false), "0/1");
            CaretBench odd = at(line("A"), 0, 1);
            moves(odd, "step(false) over level 1", odd.step(false), "1/0");
            for (int side = 0; side < 2; side++) {
                CaretBench empty = at(line(""), 0, side);
                staysAt(empty, "step(false) in an empty line", empty.step(false), "0/" + side);
                CaretBench begin = at(line("ab"), 0, side);
                staysAt(begin, "step(false) at the beginning of \"ab\"", begin.step(false), "0/" + side);
                CaretBench turned = at(backward("AB"), 2, side);
                staysAt(turned, "step(false) at the end of \"AB\", BACKWARD", turned.step(false), "2/" + side);
            }
            CaretBench leftEnd = at(line("AB"), 2, 0);
            staysAt(leftEnd, "step(false) at 2/0 of \"AB\"", leftEnd.step(false), "2/0");
            CaretBench leftToo = at(line("AB"), 0, 0);
            staysAt(leftToo, "step(false) at 0/0 of \"AB\"", leftToo.step(false), "0/0");
            CaretBench backwardLeft = at(backward("ab"), 0, 1);
            staysAt(backwardLeft, "step(false) at 0/1 of \"ab\", BACKWARD", backwardLeft.step(false), "0/1");
        });
    }

    // ---- Promises 1 to 4

    private static void newObject() {
        of("Promise 1", "An empty FORWARD LINE, the CARET at 0 with SIDE 0.", () -> {
            CaretBench b = new CaretBench();
            int[] counts = {0, 0, 1, 0, 0, 0};
            for (int what = 0; what < counts.length; what++) {
                due("count(" + what + ")", b.count(what), counts[what]);
            }
            caretIsAt(b, "0/0@0");
            due("sign(0)", b.sign(0), NONE);
            due("level(0)", b.level(0), NONE);
            due("cluster(0, 0)", b.cluster(0, 0), NONE);
            due("seen(0)", b.seen(0), NONE);
            due("piece(0, 0)", b.piece(0, 0), NONE);
            due("undo()", b.undo(), NONE);
            due("way(0)", b.way(0), 0);
            CaretBench other = at(backward("ab"), 1, 1);
            other.select(0, 2);
            due("piece(0, 0) of another object", new CaretBench().piece(0, 0), NONE);
            caretIs(new CaretBench(), "0/0");
            due("count(0) of another object", new CaretBench().count(0), 0);
            due("count(5) of another object", new CaretBench().count(5), 0);
            lineIs(other, "ab");
        });
    }

    private static void way() {
        of("Promise 2", "THE LINE's WAY from now on (the CARET stays): what it was", () -> {
            CaretBench empty = at(line(""), 0, 1);
            due("way(1) of an empty line", empty.way(1), 0);
            due("count(5)", empty.count(5), 1);
            caretIs(empty, "0/1");
            due("way(1) again", empty.way(1), 1);
            due("way(0)", empty.way(0), 1);
            due("count(5)", empty.count(5), 0);
            for (int side = 0; side < 2; side++) {
                CaretBench full = at(line("A".repeat(60)), 60, side);
                due("way(1) of a full line", full.way(1), 0);
                caretIs(full, "60/" + side);
                CaretBench within = at(line("aB"), 1, side);
                due("way(1)", within.way(1), 0);
                caretIs(within, "1/" + side);
            }
            CaretBench joined = at(line("a^b"), 2, 0);
            due("way(1)", joined.way(1), 0);
            caretIs(joined, "2/0");
        });
        of("Promise 2", "NONE when there is none such.", () -> {
            for (int way : new int[] {MIN, MIN + 1, MAX - 1, MAX, 256}) {
                CaretBench empty = at(line(""), 0, 1);
                refused(empty, "way(" + way + ") of an empty line", () -> empty.way(way), NONE);
                due("way(0) behind way(" + way + ")", empty.way(0), 0);
            }
            for (int way : new int[] {-2, -1, 2, 3}) {
                CaretBench forward = at(line("aB 1"), 2, 1);
                refused(forward, "way(" + way + ")", () -> forward.way(way), NONE);
                due("way(0) behind way(" + way + ")", forward.way(0), 0);
                CaretBench backward = at(backward("aB 1"), 2, 1);
                refused(backward, "way(" + way + ")", () -> backward.way(way), NONE);
                due("way(1) behind way(" + way + ")", backward.way(1), 1);
            }
        });
    }

    private static void put() {
        of("Promise 3", "SIGNS (a .. d: four bytes, the highest of a first; bytes 0 are left out)", () -> {
            CaretBench b = new CaretBench();
            due("put of 16 signs", b.put(0x61626364, 0x65666768, 0x696A6B6C, 0x6D6E6F70), 16);
            lineIs(b, "abcdefghijklmnop");
            for (int place = 0; place < 16; place++) {
                String alone = "\0".repeat(place) + "z";
                CaretBench one = new CaretBench();
                due("put of byte " + place + " alone", add(one, alone), 1);
                due("sign(0) of byte " + place, one.sign(0), (int) 'z');
                StringBuilder without = new StringBuilder("abcdefghijklmnop");
                without.setCharAt(place, '\0');
                CaretBench fifteen = new CaretBench();
                due("put without byte " + place, add(fifteen, without.toString()), 15);
                lineIs(fifteen, without.toString().replace("\0", ""));
            }
            CaretBench none = new CaretBench();
            due("put(0, 0, 0, 0)", none.put(0, 0, 0, 0), 0);
            due("count(0)", none.count(0), 0);
        });
        of("Promise 3", "come to THE LINE's end (the CARET stays): how many SIGNS there are", () -> {
            CaretBench b = at(line("ab"), 1, 1);
            due("put of \"CD\"", add(b, "CD"), 4);
            lineIs(b, "abCD");
            caretIs(b, "1/1");
            due("put(0, 0, 0, 0)", b.put(0, 0, 0, 0), 4);
            caretIs(b, "1/1");
            CaretBench end = at(line("ab"), 2, 1);
            due("put of \"C\"", add(end, "C"), 3);
            caretIs(end, "2/1");
            CaretBench empty = at(line(""), 0, 1);
            due("put of \"a\"", add(empty, "a"), 1);
            caretIs(empty, "0/1");
            CaretBench almost = at(line("a".repeat(44)), 0, 1);
            due("put of 16 signs behind 44", add(almost, "b".repeat(16)), 60);
            due("sign(59)", almost.sign(59), (int) 'b');
            caretIs(almost, "0/1");
            due("put of 1 sign behind 59", add(line("a".repeat(59)), "b"), 60);
            due("put(0, 0, 0, 0) on a full line", line("a".repeat(60)).put(0, 0, 0, 0), 60);
        });
    }

    private static void putRefused() {
        of("Promise 3", "-1 a byte is no SIGN", () -> {
            for (int place = 0; place < 16; place++) {
                StringBuilder bytes = new StringBuilder("b".repeat(16));
                bytes.setCharAt(place, '#');
                CaretBench b = at(line("aB"), 1, 1);
                refused(b, "put with # as byte " + place, () -> add(b, bytes.toString()), -1);
            }
            for (int wrong : new int[] {1, 31, 34, 63, 95, 96, 124, 125, 127, 128, 129, 225, 255}) {
                CaretBench b = at(line("aB"), 1, 1);
                refused(b, "put of byte " + wrong, () -> b.put(wrong << 24, 0, 0, 0), -1);
                refused(b, "put of byte " + wrong + " at last", () -> b.put(0, 0, 0, wrong), -1);
            }
            CaretBench b = new CaretBench();
            due("put(-1, -1, -1, -1)", b.put(-1, -1, -1, -1), -1);
            due("put(MIN, 0, 0, 0)", b.put(MIN, 0, 0, 0), -1);
            due("put(MAX, 0, 0, 0)", b.put(MAX, 0, 0, 0), -1);
            due("count(0)", b.count(0), 0);
            due("undo()", b.undo(), NONE);
        });
        of("Promise 3", "-2 there would be more than 60 (all stays).", () -> {
            String[][] tooMany = {{"a".repeat(60), "b"}, {"a".repeat(59), "bc"}, {"A".repeat(45), "b".repeat(16)},
                {"a^b".repeat(20), "'"}, {"a".repeat(60), "\0".repeat(15) + "b"}};
            for (String[] both : tooMany) {
                CaretBench b = line(both[0]);
                refused(b, "put of " + both[1].length() + " behind " + both[0].length(), () -> add(b, both[1]), -2);
            }
            due("put of \"b\" behind 59", add(line("a".repeat(59)), "b"), 60);
            due("put of a byte that is no sign on a full line", line("a".repeat(60)).put('#', 0, 0, 0), -1);
        });
    }

    private static void clear() {
        of("Promise 4", "THE LINE is empty, the CARET at 0 with SIDE 0: how many SIGNS there were.", () -> {
            CaretBench empty = at(line(""), 0, 1);
            due("clear() of an empty line", empty.clear(), 0);
            caretIs(empty, "0/0");
            CaretBench full = at(line("a".repeat(60)), 60, 1);
            due("clear() of a full line", full.clear(), 60);
            caretIsAt(full, "0/0@0");
            int[] counts = {0, 0, 1, 0, 0, 0};
            for (int what = 0; what < counts.length; what++) {
                due("count(" + what + ")", full.count(what), counts[what]);
            }
            due("sign(0)", full.sign(0), NONE);
            due("level(0)", full.level(0), NONE);
            due("seen(0)", full.seen(0), NONE);
            due("clear() again", full.clear(), 0);
            due("put of 60 signs anew", add(full, "B".repeat(60)), 60);
            due("clear() with the caret at 0/1", at(line("a"), 0, 1).clear(), 1);
            CaretBench first = at(line("a"), 0, 1);
            first.clear();
            caretIs(first, "0/0");
            CaretBench joined = at(line("a^b"), 2, 0);
            due("clear() within a joined one", joined.clear(), 3);
            caretIs(joined, "0/0");
            CaretBench anew = line("ab^c");
            due("clear()", anew.clear(), 4);
            add(anew, "ab");
            due("count(1) of \"ab\" where \"ab^c\" was", anew.count(1), 2);
            due("cluster(1, 5) of \"ab\" where \"ab^c\" was", anew.cluster(1, 5), 0);
            due("count(3) of \"ab\" where \"ab^c\" was", anew.count(3), 20);
        });
    }

    // ---- Promises 5 to 9

    private static void count() {
        of("Promise 5", "0 SIGNS, 1 CLUSTERS, 2 STANDS, 3 WIDTH of all", () -> {
            counts("", 0, 0, 1, 0);
            counts("a", 1, 1, 2, 10);
            counts("a^b", 3, 1, 3, 16);
            counts("a'~", 3, 1, 2, 10);
            counts("a".repeat(60), 60, 60, 61, 600);
            counts("a^b".repeat(20), 60, 20, 41, 320);
            counts(" ".repeat(60), 60, 60, 61, 300);
            counts("a" + "'".repeat(59), 60, 1, 2, 10);
        });
        of("Promise 5", "4 ROWS with SIGNS", () -> {
            String[] texts = {"", "a", "[]", "[", "[a", "[[", "[a]", "[a][b]", "[][][]", "{", "]",
                "[".repeat(60), "[]".repeat(30), "[a]".repeat(20), "[".repeat(30) + "]".repeat(30)};
            int[] rows = {0, 1, 1, 1, 2, 2, 2, 3, 1, 1, 1, 60, 1, 21, 30};
            for (int i = 0; i < texts.length; i++) {
                due("count(4) of \"" + texts[i] + "\"", line(texts[i]).count(4), rows[i]);
            }
            due("count(4) of an empty BACKWARD line", backward("").count(4), 0);
        });
        of("Promise 5", "5 the greatest LEVEL (of an empty LINE its base).", () -> {
            due("count(5) of \"\"", line("").count(5), 0);
            due("count(5) of \"\", BACKWARD", backward("").count(5), 1);
            due("count(5) of \"a\"", line("a").count(5), 0);
            due("count(5) of \"aA1\"", line("aA1").count(5), 2);
            due("count(5) of \"aA\"", line("aA").count(5), 1);
            due("count(5) of \"Aa\"", line("Aa").count(5), 1);
            due("count(5) of \"A\", BACKWARD", backward("A").count(5), 1);
            due("count(5) of 59 [ and A", line("[".repeat(59) + "A").count(5), 119);
            due("count(5) of 59 { and a, BACKWARD", backward("{".repeat(59) + "a").count(5), 120);
            due("count(5) of 60 [", line("[".repeat(60)).count(5), 0);
            due("count(5) of 60 [, BACKWARD", backward("[".repeat(60)).count(5), 1);
            CaretBench cleared = backward("[A1");
            cleared.clear();
            cleared.way(1);
            due("count(5) of a line that was cleared, BACKWARD", cleared.count(5), 1);
            cleared.way(0);
            due("count(5) of a line that was cleared", cleared.count(5), 0);
        });
        of("Promise 5", "NONE for others.", () -> {
            for (int what : new int[] {-1, 6, 7, MIN, MAX, MIN + 1, 256}) {
                due("count(" + what + ") of \"\"", line("").count(what), NONE);
                due("count(" + what + ") of \"aB\"", line("aB").count(what), NONE);
                due("count(" + what + ") of a full line", line("a".repeat(60)).count(what), NONE);
            }
        });
    }

    private static void counts(String text, int signs, int clusters, int stands, int width) {
        CaretBench b = line(text);
        due("count(0) of \"" + text + "\"", b.count(0), signs);
        due("count(1) of \"" + text + "\"", b.count(1), clusters);
        due("count(2) of \"" + text + "\"", b.count(2), stands);
        due("count(3) of \"" + text + "\"", b.count(3), width);
    }

    private static void signAndLevel() {
        of("Promise 6", "SIGN i; NONE when there is none such.", () -> {
            CaretBench b = line("aB1");
            due("sign(0)", b.sign(0), (int) 'a');
            due("sign(2)", b.sign(2), (int) '1');
            for (int i : new int[] {-1, 3, 4, 59, 60, 61, MIN, MAX}) {
                due("sign(" + i + ") of 3 signs", b.sign(i), NONE);
            }
            CaretBench full = line("a".repeat(59) + "z");
            due("sign(59) of a full line", full.sign(59), (int) 'z');
            for (int i : new int[] {-1, 60, 61, MIN, MAX}) {
                due("sign(" + i + ") of a full line", full.sign(i), NONE);
            }
            due("sign(0) of an empty line", line("").sign(0), NONE);
            due("back() at 60", at(full, 60, 0).back(), 1);
            due("sign(59) of what was struck", full.sign(59), NONE);
        });
        of("Promise 7", "LEVEL of SIGN i; NONE when there is none such.", () -> {
            CaretBench b = line("aB1");
            due("level(0)", b.level(0), 0);
            due("level(1)", b.level(1), 1);
            due("level(2)", b.level(2), 2);
            for (int i : new int[] {-1, 3, 4, 59, 60, 61, MIN, MAX}) {
                due("level(" + i + ") of 3 signs", b.level(i), NONE);
            }
            CaretBench full = line("a".repeat(59) + "Z");
            due("level(59) of a full line", full.level(59), 1);
            for (int i : new int[] {-1, 60, 61, MIN, MAX}) {
                due("level(" + i + ") of a full line", full.level(i), NONE);
            }
            due("level(0) of an empty line", line("").level(0), NONE);
            due("back() at 60", at(full, 60, 0).back(), 1);
            due("level(59) of what was struck", full.level(59), NONE);
        });
    }

    private static void cluster() {
        of("Promise 8",
            "CLUSTER k: 0 its first SIGN's number, 1 how many SIGNS, 2 LEVEL, 3 x of its left side, 4"
            + " WIDTH, 5 whether it is JOINED, 6 which it is from the left.", () -> {
            clusterIs(line("a'A^B"), 0, 0, 2, 0, 0, 10, 0, 0);
            clusterIs(line("a'A^B"), 1, 2, 3, 1, 10, 16, 1, 1);
            clusterIs(line("AB1"), 0, 0, 1, 1, 18, 10, 0, 2);
            clusterIs(line("AB1"), 1, 1, 1, 1, 8, 10, 0, 1);
            clusterIs(line("AB1"), 2, 2, 1, 2, 0, 8, 0, 0);
            clusterIs(line("a".repeat(60)), 59, 59, 1, 0, 590, 10, 0, 59);
            clusterIs(line("A".repeat(60)), 59, 59, 1, 1, 0, 10, 0, 0);
            clusterIs(line("a" + "'".repeat(59)), 0, 0, 60, 0, 0, 10, 0, 0);
        });
        of("Promise 8", "NONE when there is none such, or for others.", () -> {
            int[] others = {-1, 7, 8, 60, MIN, MAX};
            for (int what : others) {
                due("cluster(0, " + what + ")", line("ab").cluster(0, what), NONE);
                due("cluster(1, " + what + ")", line("ab").cluster(1, what), NONE);
            }
            for (int what = 0; what < 7; what++) {
                for (int k : new int[] {-1, 2, 3, 60, MIN, MAX}) {
                    due("cluster(" + k + ", " + what + ") of two", line("a'b").cluster(k, what), NONE);
                }
                due("cluster(0, " + what + ") of an empty line", line("").cluster(0, what), NONE);
                due("cluster(60, " + what + ") of a full line", line("a".repeat(60)).cluster(60, what), NONE);
                due("cluster(1, " + what + ") of a^b", line("a^b").cluster(1, what), NONE);
                CaretBench struck = at(line("ab"), 2, 0);
                struck.back();
                due("cluster(1, " + what + ") of what was struck", struck.cluster(1, what), NONE);
            }
            due("cluster(MIN, MIN)", line("ab").cluster(MIN, MIN), NONE);
            due("cluster(MAX, MAX)", line("ab").cluster(MAX, MAX), NONE);
        });
    }

    private static void clusterIs(CaretBench b, int k, int... want) {
        for (int what = 0; what < want.length; what++) {
            due("cluster(" + k + ", " + what + ") of \"" + text(b) + "\"", b.cluster(k, what), want[what]);
        }
    }

    private static void seen() {
        of("Promise 9",
            "What is seen as the v-th CLUSTER from the left: its first SIGN, ( ) < > of an odd LEVEL as"
            + " their mates", () -> {
            due("sight of \"A(B)<C>\"", sightOf(line("A(B)<C>")), "C>(B)A>");
            due("sight of \"(a)<b>\"", sightOf(line("(a)<b>")), "(a)<b>");
            due("sight of \"[(a)<]\"", sightOf(line("[(a)<]")), "[(a)<]");
            due("sight of \"(a)\", BACKWARD", sightOf(backward("(a)")), "(a)");
            due("sight of \"(\", BACKWARD", sightOf(backward("(")), ")");
            due("sight of \")\", BACKWARD", sightOf(backward(")")), "(");
            due("sight of \"<\", BACKWARD", sightOf(backward("<")), ">");
            due("sight of \">\", BACKWARD", sightOf(backward(">")), "<");
            due("sight of \"a[b\", BACKWARD", sightOf(backward("a[b")), "b[a");
            due("sight of \"a(b\", BACKWARD", sightOf(backward("a(b")), "a(b");
            due("sight of \"![{]\", BACKWARD", sightOf(backward("![{]")), "]{[!");
            due("sight of \"A('B\"", sightOf(line("A('B")), "B)A");
        });
        of("Promise 9", "NONE when there is none such.", () -> {
            CaretBench b = line("aB'");
            due("seen(0)", b.seen(0), (int) 'a');
            due("seen(1)", b.seen(1), (int) 'B');
            for (int v : new int[] {-1, 2, 3, 60, MIN, MAX}) {
                due("seen(" + v + ") of two clusters", b.seen(v), NONE);
            }
            due("seen(0) of an empty line", line("").seen(0), NONE);
            CaretBench full = line("a".repeat(59) + "z");
            due("seen(59) of a full line", full.seen(59), (int) 'z');
            due("seen(60) of a full line", full.seen(60), NONE);
            due("back() at 60", at(full, 60, 0).back(), 1);
            due("seen(59) of what was struck", full.seen(59), NONE);
        });
    }

    // ---- Promises 10 to 15

    private static void caretAndGo() {
        of("Promise 10", "The CARET: 0 STAND, 1 SIDE, 2 x. NONE for others.", () -> {
            CaretBench b = at(line("aBC"), 1, 1);
            due("caret(0)", b.caret(0), 1);
            due("caret(1)", b.caret(1), 1);
            due("caret(2)", b.caret(2), 30);
            for (int what : new int[] {-1, 3, 4, MIN, MAX}) {
                due("caret(" + what + ")", b.caret(what), NONE);
                due("caret(" + what + ") of an empty line", line("").caret(what), NONE);
            }
            due("caret(2) at the end of a full line", at(line("a".repeat(60)), 60, 0).caret(2), 600);
        });
        of("Promise 11", "The CARET goes to a STAND with a SIDE: true", () -> {
            for (int side = 0; side < 2; side++) {
                CaretBench b = line("ab");
                for (int stand = 0; stand <= 2; stand++) {
                    moves(b, "go(" + stand + ", " + side + ")", b.go(stand, side), stand + "/" + side);
                }
                CaretBench full = line("a".repeat(60));
                moves(full, "go(60, " + side + ")", full.go(60, side), "60/" + side);
                CaretBench empty = line("");
                moves(empty, "go(0, " + side + ")", empty.go(0, side), "0/" + side);
            }
            CaretBench joined = line("a^b");
            moves(joined, "go(2, 0) within a joined one", joined.go(2, 0), "2/0");
            moves(joined, "go(3, 1) behind a joined one", joined.go(3, 1), "3/1");
            moves(joined, "go(0, 1) ahead of a joined one", joined.go(0, 1), "0/1");
        });
        of("Promise 11", "false when there is none such.", () -> {
            for (int stand : new int[] {-1, 3, 4, 60, 61, MIN, MAX}) {
                for (int side = 0; side < 2; side++) {
                    goRefused("ab", stand, side);
                }
            }
            for (int side : new int[] {-1, 2, 3, MIN, MAX}) {
                goRefused("ab", 0, side);
                goRefused("ab", 2, side);
                goRefused("a^b", 2, side);
                goRefused("", 0, side);
            }
            goRefused("", 1, 0);
            goRefused("", -1, 0);
            goRefused("a'", 1, 0);
            goRefused("a'", 1, 1);
            goRefused("a^b", 1, 0);
            goRefused("a^b", 1, 1);
            goRefused("a^b", 2, 1);
            goRefused("a^b''", 3, 0);
            goRefused("a^b''", 4, 0);
            goRefused("a".repeat(60), 61, 0);
            goRefused("a".repeat(60), -1, 1);
        });
    }

    private static void goRefused(String text, int stand, int side) {
        CaretBench b = at(line(text), 0, 1);
        staysAt(b, "go(" + stand + ", " + side + ") of \"" + text + "\"", b.go(stand, side), "0/1");
    }

    private static void onAndStep() {
        of("Promise 12", "The CARET goes on BY SENSE (true) or back: true; false at the end.", () -> {
            for (int side = 0; side < 2; side++) {
                for (String text : new String[] {"ab", "AB", "a^b", "a'", "a".repeat(60), ""}) {
                    int end = text.length();
                    CaretBench b = at(line(text), end, side);
                    staysAt(b, "on(true) at the end of \"" + text + "\"", b.on(true), end + "/" + side);
                    CaretBench begin = at(line(text), 0, side);
                    staysAt(begin, "on(false) at 0 of \"" + text + "\"", begin.on(false), "0/" + side);
                    CaretBench turned = at(backward(text), end, side);
                    staysAt(turned, "on(true) at the end, BACKWARD", turned.on(true), end + "/" + side);
                }
            }
            CaretBench one = line("a");
            moves(one, "on(true) over the only one", one.on(true), "1/0");
            moves(one, "on(false) over the only one", one.on(false), "0/1");
            CaretBench full = at(line("a".repeat(60)), 59, 0);
            moves(full, "on(true) at 59", full.on(true), "60/0");
            CaretBench mark = line("a" + "'".repeat(59));
            moves(mark, "on(true) over 60 signs", mark.on(true), "60/0");
            moves(mark, "on(false) over 60 signs", mark.on(false), "0/1");
        });
        of("Promise 13", "The CARET goes BY SIGHT to the right (true) or left: true; false at the end.", () -> {
            for (String text : new String[] {"ab", "AB", "aB1 c", "A^B", "a".repeat(60), "A".repeat(60), ""}) {
                walk(line(text), true);
                walk(line(text), false);
                walk(backward(text), true);
                walk(backward(text), false);
            }
        });
    }

    /* From any stand on the steps go to one end, each of them further, and there they are refused. */
    private static void walk(CaretBench b, boolean right) {
        String call = "step(" + right + ") in \"" + text(b) + "\"";
        int end = right ? b.count(3) : 0;
        b.go(0, 1);
        int x = b.caret(2);
        for (int i = 0; i < 62 && x != end; i++) {
            due(call + " from x " + x, b.step(right), true);
            int next = b.caret(2);
            due(call + " goes that way from x " + x, right ? next > x : next < x, true);
            x = next;
        }
        due(call + " comes to x", x, end);
        String there = where(b);
        staysAt(b, call + " at the end", b.step(right), there);
    }

    private static void wordOn() {
        of("Promise 14",
            "to the next STAND that is ahead of a CLUSTER that begins with a letter or digit, and behind"
            + " one that does not (SIDE 1)", () -> {
            CaretBench b = line(" a 1!B");
            moves(b, "word(true) from 0", b.word(true), "1/1");
            moves(b, "word(true) from 1", b.word(true), "3/1");
            moves(b, "word(true) from 3", b.word(true), "5/1");
            CaretBench mark = line("'a");
            moves(mark, "word(true) behind a mark at the beginning", mark.word(true), "1/1");
            CaretBench joined = line("!a^b");
            moves(joined, "word(true) to a joined one", joined.word(true), "1/1");
            CaretBench full = line("!".repeat(59) + "a");
            moves(full, "word(true) to the last sign of a full line", full.word(true), "59/1");
        });
        of("Promise 14", "else to the end (SIDE 0)", () -> {
            for (String text : new String[] {"a", "!", "ab", "a'b", "a^b", "a!!", "1a", "a^b^", "a".repeat(60)}) {
                CaretBench b = at(line(text), 0, 1);
                moves(b, "word(true) from 0 of \"" + text + "\"", b.word(true), text.length() + "/0");
            }
            CaretBench within = at(line("a^b"), 2, 0);
            moves(within, "word(true) within a joined one", within.word(true), "3/0");
            CaretBench atWord = at(line(" a"), 1, 1);
            moves(atWord, "word(true) at the last word", atWord.word(true), "2/0");
            CaretBench last = at(line("a".repeat(60)), 59, 1);
            moves(last, "word(true) at 59", last.word(true), "60/0");
        });
        of("Promise 14", "false if it is at the end, or 0, already.", () -> {
            for (int side = 0; side < 2; side++) {
                for (String text : new String[] {"", "a", " a", "a ", "a^b", "A".repeat(60)}) {
                    int end = text.length();
                    CaretBench b = at(line(text), end, side);
                    staysAt(b, "word(true) at the end of \"" + text + "\"", b.word(true), end + "/" + side);
                    CaretBench begin = at(line(text), 0, side);
                    staysAt(begin, "word(false) at 0 of \"" + text + "\"", begin.word(false), "0/" + side);
                }
            }
        });
    }

    private static void wordBack() {
        of("Promise 14", "back: to the last such one ahead of it", () -> {
            CaretBench b = at(line(" a 1!B"), 6, 0);
            moves(b, "word(false) from 6", b.word(false), "5/1");
            moves(b, "word(false) from 5", b.word(false), "3/1");
            moves(b, "word(false) from 3", b.word(false), "1/1");
            CaretBench joined = at(line("!a^b"), 3, 0);
            moves(joined, "word(false) within a joined one", joined.word(false), "1/1");
            CaretBench full = at(line("!".repeat(59) + "a"), 60, 0);
            moves(full, "word(false) from 60", full.word(false), "59/1");
        });
        of("Promise 14", "else to 0 (SIDE 1 both)", () -> {
            for (String text : new String[] {"a", "!", "ab", "a'b", "a^b", "a!!", "1a", "a".repeat(60)}) {
                CaretBench b = at(line(text), text.length(), 0);
                moves(b, "word(false) from the end of \"" + text + "\"", b.word(false), "0/1");
            }
            CaretBench atWord = at(line(" a"), 1, 1);
            moves(atWord, "word(false) at the first word", atWord.word(false), "0/1");
            CaretBench within = at(line("a^b"), 2, 0);
            moves(within, "word(false) within a joined one", within.word(false), "0/1");
        });
    }

    private static void pick() {
        of("Promise 15", "left of all as if at the left end, right of all at the right end", () -> {
            for (int x : new int[] {-1, -2, -600, MIN, MIN + 1}) {
                picked(line("ab"), x, "0/1");
                picked(line("AB"), x, "2/0");
                picked(backward("ab"), x, "0/1");
                picked(backward("AB"), x, "2/0");
                picked(line("a^b"), x, "0/1");
                picked(line("A^B"), x, "3/0");
                picked(line("A".repeat(60)), x, "60/0");
            }
            for (int x : new int[] {20, 21, 600, MAX - 1, MAX}) {
                picked(line("ab"), x, "2/0");
                picked(line("AB"), x, "0/1");
                picked(backward("ab"), x, "2/0");
                picked(backward("AB"), x, "0/1");
                picked(line("a^b"), x, "3/0");
                picked(line("A^B"), x, "0/1");
            }
            picked(line("a".repeat(60)), 600, "60/0");
            picked(line("a".repeat(60)), 601, "60/0");
        });
        of("Promise 15",
            "else the CLUSTER from whose left side on, up to its right side (without that), it is", () -> {
            picked(line("ab"), 0, "0/1");
            picked(line("ab"), 9, "1/0");
            picked(line("ab"), 10, "1/1");
            picked(line("ab"), 19, "2/0");
            picked(line("aB"), 9, "1/0");
            picked(line("aB"), 10, "2/0");
            picked(line("aB"), 19, "1/1");
            picked(line("a".repeat(60)), 590, "59/1");
            picked(line("a".repeat(60)), 599, "60/0");
        });
        of("Promise 15",
            "The left end is the left side of the first CLUSTER from the left, the right end the right"
            + " side of the last one (without any: 0, SIDE 0).", () -> {
            for (int x : new int[] {MIN, -1, 0, 1, 5, MAX}) {
                picked(at(line(""), 0, 1), x, "0/0");
                picked(at(backward(""), 0, 1), x, "0/0");
                CaretBench cleared = line("aB");
                cleared.clear();
                picked(cleared, x, "0/0");
            }
            picked(line("Ab"), -1, "1/0");
            picked(line("Ab"), 20, "2/0");
            picked(line("aB"), -1, "0/1");
            picked(line("aB"), 20, "1/1");
        });
        of("Promise 15", "The STAND.", () -> {
            due("pick(-1) of \"AB\"", line("AB").pick(-1), 2);
            due("pick(20) of \"AB\"", line("AB").pick(20), 0);
            due("pick(0) of \"\"", line("").pick(0), 0);
            due("pick(8) of \"a^b\"", line("a^b").pick(8), 2);
        });
    }

    private static void pickHalves() {
        of("Promise 15",
            "to its left side, if it is nearer to that, else to its right one (the middle counts as"
            + " right)", () -> {
            picked(line("a"), 4, "0/1");
            picked(line("a"), 5, "1/0");
            picked(line("A"), 4, "1/0");
            picked(line("A"), 5, "0/1");
            picked(line("1"), 3, "0/1");
            picked(line("1"), 4, "1/0");
            picked(line("!"), 2, "0/1");
            picked(line("!"), 3, "1/0");
            picked(line("a b"), 12, "1/1");
            picked(line("a b"), 13, "2/0");
            picked(line("a'"), 4, "0/1");
            picked(line("a'"), 5, "2/0");
        });
        of("Promise 15",
            "of a JOINED one to the left, middle or right, whichever is nearest (of two the one to the"
            + " right)", () -> {
            String[] forward = {"0/1", "0/1", "2/0", "2/0", "3/0", "3/0"};
            String[] turned = {"3/0", "3/0", "2/0", "2/0", "0/1", "0/1"};
            int[] xs = {0, 3, 4, 11, 12, 15};
            for (int i = 0; i < xs.length; i++) {
                picked(line("a^b"), xs[i], forward[i]);
                picked(line("A^B"), xs[i], turned[i]);
            }
            picked(line("1a^b"), 11, "1/1");
            picked(line("1a^b"), 12, "3/0");
            picked(line("1a^b"), 19, "3/0");
            picked(line("1a^b"), 20, "4/0");
        });
    }

    private static void picked(CaretBench b, int x, String want) {
        String call = "pick(" + x + ") of \"" + text(b) + "\"";
        due(call, String.valueOf(b.pick(x)), want.substring(0, want.indexOf('/')));
        due("the caret behind " + call, where(b), want);
    }

    // ---- Promises 16 and 17

    private static void select() {
        of("Promise 16",
            "How many pieces side by side are seen of what is between two STANDS between CLUSTERS (in any"
            + " order)", () -> {
            selected("aBC1dEF", 2, 6, 3);
            selected("aBCd", 1, 3, 1);
            selected("aBCd", 0, 2, 2);
            selected("a".repeat(60), 0, 60, 1);
            selected("A".repeat(60), 0, 60, 1);
            selected("a^b", 0, 3, 1);
            selected("a^bC", 0, 4, 1);
            selected("a'b", 2, 3, 1);
            for (String text : new String[] {"", "a", "a^b", "A".repeat(60)}) {
                selected(text, 0, 0, 0);
                selected(text, text.length(), text.length(), 0);
            }
            CaretBench still = at(line("ab"), 1, 1);
            still.select(0, 2);
            caretIs(still, "1/1");
        });
        of("Promise 16", "NONE when there are no such two.", () -> {
            int[] none = {-1, 3, 4, 60, 61, MIN, MAX};
            for (int a : none) {
                selectRefused("ab", a, 0);
                selectRefused("ab", 2, a);
                selectRefused("ab", a, a);
            }
            selectRefused("ab", MIN, MAX);
            selectRefused("", 0, 1);
            selectRefused("", -1, 0);
            selectRefused("a'b", 0, 1);
            selectRefused("a'b", 1, 3);
            selectRefused("a^b", 0, 2);
            selectRefused("a^b", 2, 3);
            selectRefused("a^b", 2, 2);
            selectRefused("a^b", 1, 3);
            selectRefused("a".repeat(60), 0, 61);
        });
    }

    private static void selected(String text, int a, int b, int want) {
        due("select(" + a + ", " + b + ") of \"" + text + "\"", line(text).select(a, b), want);
        due("select(" + b + ", " + a + ") of \"" + text + "\"", line(text).select(b, a), want);
    }

    private static void selectRefused(String text, int a, int b) {
        CaretBench bench = line(text);
        bench.select(0, text.length());
        refused(bench, "select(" + a + ", " + b + ") of \"" + text + "\"", () -> bench.select(a, b), NONE);
    }

    private static void piece() {
        of("Promise 17",
            "Piece k, from the left, of the latest select() that was not refused: 0 its left x, 1 its"
            + " right x", () -> {
            CaretBench b = line("aBC1dEF");
            due("select(2, 6)", b.select(2, 6), 3);
            due("pieces", piecesOf(b), "10-28 38-48 58-68");
            due("select(-1, 2)", b.select(-1, 2), NONE);
            due("pieces behind a refused select", piecesOf(b), "10-28 38-48 58-68");
            due("select(0, 8)", b.select(0, 8), NONE);
            due("pieces behind a refused select", piecesOf(b), "10-28 38-48 58-68");
            due("select(7, 0)", b.select(7, 0), 1);
            due("pieces of all", piecesOf(b), "0-68");
            due("select(3, 3)", b.select(3, 3), 0);
            due("pieces of nothing", piecesOf(b), "");
            CaretBench full = line("aB".repeat(30));
            due("select(0, 60) of a full line", full.select(0, 60), 1);
            due("pieces of a full line", piecesOf(full), "0-600");
            CaretBench joined = line("a^b");
            joined.select(0, 3);
            joined.select(0, 2);
            due("pieces behind a select within a joined one", piecesOf(joined), "0-16");
        });
        of("Promise 17", "NONE when there is none such.", () -> {
            for (int what = 0; what < 2; what++) {
                due("piece(0, " + what + ") before any select", line("ab").piece(0, what), NONE);
                CaretBench refusedOnly = line("ab");
                refusedOnly.select(0, 3);
                due("piece(0, " + what + ") behind a refused select alone", refusedOnly.piece(0, what), NONE);
                CaretBench b = line("aBC1dEF");
                b.select(2, 6);
                for (int k : new int[] {-1, 3, 4, 60, MIN, MAX}) {
                    due("piece(" + k + ", " + what + ") of three", b.piece(k, what), NONE);
                }
                b.select(0, 1);
                due("piece(1, " + what + ") of one", b.piece(1, what), NONE);
                b.select(1, 1);
                due("piece(0, " + what + ") of none", b.piece(0, what), NONE);
            }
            for (int what : new int[] {-1, 2, 3, MIN, MAX}) {
                CaretBench b = line("ab");
                b.select(0, 2);
                due("piece(0, " + what + ")", b.piece(0, what), NONE);
            }
        });
    }

    // ---- Promises 18 to 21

    private static void back() {
        of("Promise 18", "if the SIGN at once ahead is a MARK, that one", () -> {
            struckBack("a'~", 3, 0, 1, "a'", "2/1");
            struckBack("'", 1, 0, 1, "", "0/1");
            struckBack("''a", 1, 1, 1, "'a", "0/1");
            struckBack("a^b'", 4, 0, 1, "a^b", "3/1");
            struckBack("a'b", 2, 0, 1, "ab", "1/1");
            struckBack("a" + "'".repeat(59), 60, 0, 1, "a" + "'".repeat(58), "59/1");
        });
        of("Promise 18", "else the CLUSTER ahead (within a JOINED one: all of it)", () -> {
            struckBack("ab", 1, 0, 1, "b", "0/1");
            struckBack("ab", 2, 1, 1, "a", "1/1");
            struckBack("xa^by", 4, 0, 3, "xy", "1/1");
            struckBack("xa^by", 3, 0, 3, "xy", "1/1");
            struckBack("a^b''", 2, 0, 5, "", "0/1");
            struckBack("a^b" + "~".repeat(57), 2, 0, 60, "", "0/1");
            struckBack("A^B", 2, 0, 3, "", "0/1");
            struckBack("a".repeat(60), 60, 0, 1, "a".repeat(59), "59/1");
        });
        of("Promise 18", "how many SIGNS went; 0 at the beginning.", () -> {
            for (String text : new String[] {"", "a", "'", "a^b", "A".repeat(60)}) {
                CaretBench b = line(text);
                due("back() at 0 of \"" + text + "\"", b.back(), 0);
                due("caret(0)", b.caret(0), 0);
                lineIs(b, text);
            }
            CaretBench none = new CaretBench();
            due("back() of an empty line", none.back(), 0);
            due("undo() behind it", none.undo(), NONE);
        });
        of("Promise 18", "The CARET is there then, with SIDE 1 (if it may).", () -> {
            struckBack("ab", 2, 0, 1, "a", "1/1");
            struckBack("a", 1, 0, 1, "", "0/1");
            struckBack("a^Xb", 3, 1, 1, "a^b", "2/0");
            struckBack("a^'b", 3, 1, 1, "a^b", "2/0");
            struckBack("aX^b", 2, 1, 1, "a^b", "2/0");
            struckBack("aX'~b", 4, 1, 1, "aX'b", "3/1");
        });
    }

    private static void struckBack(String text, int stand, int side, int went, String left, String want) {
        CaretBench b = at(line(text), stand, side);
        due("back() at " + stand + "/" + side + " of \"" + text + "\"", b.back(), went);
        lineIs(b, left);
        caretIs(b, want);
    }

    private static void ahead() {
        of("Promise 19",
            "The CLUSTER behind the CARET is struck (within a JOINED one: all of it): how many SIGNS", () -> {
            struckAhead("ab", 0, 0, 1, "b", "0/0");
            struckAhead("a'~b", 0, 1, 3, "b", "0/0");
            struckAhead("''a", 0, 1, 1, "'a", "0/0");
            struckAhead("xa^b'y", 1, 0, 4, "xy", "1/0");
            struckAhead("xa^b'y", 3, 0, 4, "xy", "1/0");
            struckAhead("a^b" + "~".repeat(57), 2, 0, 60, "", "0/0");
            struckAhead("a" + "'".repeat(59), 0, 0, 60, "", "0/0");
            struckAhead("a".repeat(60), 59, 0, 1, "a".repeat(59), "59/0");
            struckAhead("A^B", 2, 0, 3, "", "0/0");
        });
        of("Promise 19", "0 at the end.", () -> {
            for (String text : new String[] {"", "a", "a'", "a^b", "A".repeat(60)}) {
                CaretBench b = at(line(text), text.length(), 0);
                due("ahead() at the end of \"" + text + "\"", b.ahead(), 0);
                due("caret(0)", b.caret(0), text.length());
                lineIs(b, text);
            }
            CaretBench none = new CaretBench();
            due("ahead() of an empty line", none.ahead(), 0);
            due("undo() behind it", none.undo(), NONE);
        });
        of("Promise 19", "The CARET is there then, with SIDE 0.", () -> {
            struckAhead("ab", 0, 1, 1, "b", "0/0");
            struckAhead("ab", 1, 1, 1, "a", "1/0");
            struckAhead("xa^by", 3, 0, 3, "xy", "1/0");
            struckAhead("aX^b", 1, 1, 1, "a^b", "2/0");
        });
    }

    private static void struckAhead(String text, int stand, int side, int went, String left, String want) {
        CaretBench b = at(line(text), stand, side);
        due("ahead() at " + stand + "/" + side + " of \"" + text + "\"", b.ahead(), went);
        lineIs(b, left);
        caretIs(b, want);
    }

    private static void type() {
        of("Promise 20", "A SIGN is typed at the CARET (within a JOINED CLUSTER: there): true", () -> {
            typed("", 0, 1, 'a', "a", "1/0");
            typed("ab", 0, 1, 'X', "Xab", "1/0");
            typed("ab", 1, 1, 'X', "aXb", "2/0");
            typed("ab", 2, 1, 'X', "abX", "3/0");
            typed("a^b", 2, 0, 'X', "a^Xb", "3/0");
            typed("a^b", 2, 0, '\'', "a^'b", "3/0");
            typed("a^b", 2, 0, 'c', "a^cb", "3/0");
            typed("a".repeat(59), 59, 0, 'b', "a".repeat(59) + "b", "60/0");
            typed("a".repeat(59), 0, 0, 'b', "b" + "a".repeat(59), "1/0");
            for (int i = 0; i < SIGNS.length(); i++) {
                due("type of '" + SIGNS.charAt(i) + "'", new CaretBench().type(SIGNS.charAt(i)), true);
            }
        });
        of("Promise 20", "false when it is no SIGN, or there are 60.", () -> {
            for (int sign = 0; sign < 512; sign++) {
                if (sign == 0 || SIGNS.indexOf(sign) < 0) {
                    due("type(" + sign + ")", new CaretBench().type(sign), false);
                }
            }
            for (int sign : new int[] {0, '#', -1, -159, 256 + 'a', 65536 + 'a', MIN, MIN + 'a', MAX, 'a' << 24}) {
                CaretBench b = at(line("aB"), 1, 1);
                refused(b, "type(" + sign + ")", () -> b.type(sign), false);
                CaretBench full = at(line("a".repeat(60)), 3, 1);
                refused(full, "type(" + sign + ") in a full line", () -> full.type(sign), false);
            }
            for (int stand : new int[] {0, 30, 60}) {
                CaretBench full = at(line("a".repeat(60)), stand, 1);
                refused(full, "type('b') in a full line", () -> full.type('b'), false);
                CaretBench marks = at(line("'".repeat(60)), stand, 1);
                refused(marks, "type('~') in 60 marks", () -> marks.type('~'), false);
            }
            CaretBench joined = at(line("a^b".repeat(20)), 2, 0);
            refused(joined, "type('b') within a joined one of a full line", () -> joined.type('b'), false);
        });
        of("Promise 20", "The CARET is behind it then, with SIDE 0.", () -> {
            typed("aB", 0, 1, 'c', "caB", "1/0");
            typed("aB", 2, 1, 'c', "aBc", "3/0");
            typed("'", 0, 1, 'a', "a'", "2/0");
            typed("^b", 0, 1, 'a', "a^b", "2/0");
            typed("ab", 1, 1, '^', "a^b", "2/0");
            typed("a^", 2, 1, 'b', "a^b", "3/0");
        });
    }

    private static void typed(String text, int stand, int side, int sign, String left, String want) {
        CaretBench b = at(line(text), stand, side);
        due("type(" + sign + ") at " + stand + "/" + side + " of \"" + text + "\"", b.type(sign), true);
        lineIs(b, left);
        caretIs(b, want);
    }

    private static void cut() {
        of("Promise 21", "What is between two STANDS (in any order) is struck: how many SIGNS", () -> {
            cutOf("abcd", 1, 3, 2, "ad", "1/0");
            cutOf("abcd", 0, 4, 4, "", "0/0");
            cutOf("a'b", 0, 2, 2, "b", "0/0");
            cutOf("a^b", 0, 2, 2, "b", "0/0");
            cutOf("a^b", 2, 3, 1, "a^", "2/0");
            cutOf("a".repeat(60), 0, 60, 60, "", "0/0");
            cutOf("a".repeat(60), 59, 60, 1, "a".repeat(59), "59/0");
            cutOf("", 0, 0, 0, "", "0/0");
            cutOf("ab", 2, 2, 0, "ab", "2/0");
        });
        of("Promise 21", "NONE when there are no such two.", () -> {
            for (int none : new int[] {-1, 3, 4, 60, 61, MIN, MAX}) {
                cutRefused("ab", none, 0);
                cutRefused("ab", 2, none);
                cutRefused("ab", none, none);
            }
            cutRefused("ab", MIN, MAX);
            cutRefused("", 0, 1);
            cutRefused("", -1, 0);
            cutRefused("a'b", 0, 1);
            cutRefused("a'b", 1, 3);
            cutRefused("a'b", 1, 1);
            cutRefused("a^b", 0, 1);
            cutRefused("a^b", 1, 2);
            cutRefused("a^b'", 3, 4);
            cutRefused("a".repeat(60), 0, 61);
        });
        of("Promise 21", "The CARET is there then, with SIDE 0.", () -> {
            for (int side = 0; side < 2; side++) {
                CaretBench b = at(line("abcd"), 4, side);
                due("cut(3, 1)", b.cut(3, 1), 2);
                caretIs(b, "1/0");
                CaretBench nothing = at(line("abcd"), 0, side);
                due("cut(2, 2)", nothing.cut(2, 2), 0);
                caretIs(nothing, "2/0");
                CaretBench joins = at(line("a1^b"), 0, side);
                due("cut(1, 2) of \"a1^b\"", joins.cut(1, 2), 1);
                caretIs(joins, "2/0");
            }
        });
    }

    private static void cutOf(String text, int a, int b, int went, String left, String want) {
        for (int turn = 0; turn < 2; turn++) {
            CaretBench bench = line(text);
            int from = turn == 0 ? a : b;
            int to = turn == 0 ? b : a;
            due("cut(" + from + ", " + to + ") of \"" + text + "\"", bench.cut(from, to), went);
            lineIs(bench, left);
            caretIs(bench, want);
        }
    }

    private static void cutRefused(String text, int a, int b) {
        CaretBench bench = at(line(text), 0, 1);
        refused(bench, "cut(" + a + ", " + b + ") of \"" + text + "\"", () -> bench.cut(a, b), NONE);
    }

    // ---- Promise 22

    private static CaretBench typedOneByOne(int number) {
        CaretBench b = new CaretBench();
        for (int i = 0; i < number; i++) {
            b.type('a' + i);
        }
        return b;
    }

    private static void undo() {
        of("Promise 22", "The latest change of THE LINE by put(), clear(), back(), ahead(), type(), cut()", () -> {
            CaretBench b = new CaretBench();
            add(b, "abc");
            b.go(3, 0);
            b.type('d');
            b.back();
            b.go(0, 0);
            b.ahead();
            b.cut(0, 1);
            b.clear();
            due("undo() of clear()", b.undo(), 5);
            lineIs(b, "c");
            due("undo() of cut()", b.undo(), 4);
            lineIs(b, "bc");
            due("undo() of ahead()", b.undo(), 3);
            lineIs(b, "abc");
            due("undo() of back()", b.undo(), 2);
            lineIs(b, "abcd");
            due("undo() of type()", b.undo(), 1);
            lineIs(b, "abc");
            due("undo() of put()", b.undo(), 0);
            lineIs(b, "");
            due("undo() of nothing", b.undo(), NONE);
            CaretBench full = line("a".repeat(60));
            full.clear();
            due("undo() of the clear() of a full line", full.undo(), 4);
            lineIs(full, "a".repeat(60));
            due("type in the full line again", full.type('b'), false);
        });
        of("Promise 22", "is taken back, with the CARET as it was ahead of it (not the WAY)", () -> {
            for (int side = 0; side < 2; side++) {
                CaretBench b = at(line("abc"), 1, side);
                b.cut(0, 3);
                due("undo() of cut()", b.undo(), 1);
                caretIs(b, "1/" + side);
                b.go(2, side);
                b.clear();
                due("undo() of clear()", b.undo(), 1);
                caretIs(b, "2/" + side);
                b.go(3, side);
                b.back();
                due("undo() of back()", b.undo(), 1);
                caretIs(b, "3/" + side);
                b.go(0, side);
                b.ahead();
                due("undo() of ahead()", b.undo(), 1);
                caretIs(b, "0/" + side);
                b.type('x');
                b.go(4, 1 - side);
                due("undo() of type()", b.undo(), 1);
                caretIs(b, "0/" + side);
                b.go(3, side);
                add(b, "'");
                caretIs(b, "4/0");
                due("undo() of put()", b.undo(), 1);
                caretIs(b, "3/" + side);
            }
            CaretBench joined = at(line("a^b"), 2, 0);
            joined.back();
            due("undo() within a joined one", joined.undo(), 1);
            caretIs(joined, "2/0");
            CaretBench parted = line("ab");
            add(parted, "^c");
            due("undo() of what joined", parted.undo(), 1);
            due("cluster(1, 5) behind it", parted.cluster(1, 5), 0);
            due("count(2) behind it", parted.count(2), 3);
            CaretBench turned = line("a");
            turned.type('B');
            turned.way(1);
            due("undo() behind way(1)", turned.undo(), 1);
            lineIs(turned, "a");
            due("way(1) behind undo()", turned.way(1), 1);
        });
        of("Promise 22", "NONE when there is none.", () -> {
            CaretBench b = at(new CaretBench(), 0, 1);
            refused(b, "undo() of a new object", b::undo, NONE);
            CaretBench one = line("a");
            due("undo() of one change", one.undo(), 0);
            refused(one, "undo() behind it", one::undo, NONE);
            refused(one, "undo() again", one::undo, NONE);
            CaretBench way = new CaretBench();
            way.way(1);
            way.go(0, 1);
            due("undo() behind way() and go() alone", way.undo(), NONE);
            due("way(1) behind it", way.way(1), 1);
            CaretBench eight = typedOneByOne(8);
            for (int more = 7; more >= 0; more--) {
                due("undo()", eight.undo(), more);
            }
            refused(eight, "undo() behind eight", eight::undo, NONE);
        });
    }

    private static void undoOfTheLatestEight() {
        of("Promise 22", "(the latest eight", () -> {
            for (int changes : new int[] {7, 8, 9, 10, 16, 17, 20, 26}) {
                CaretBench b = typedOneByOne(changes);
                int kept = Math.min(changes, 8);
                for (int taken = 1; taken <= kept; taken++) {
                    due("undo() " + taken + " behind " + changes + " changes", b.undo(), kept - taken);
                    due("count(0)", b.count(0), changes - taken);
                    caretIs(b, (changes - taken) + "/0");
                }
                due("undo() " + (kept + 1) + " behind " + changes + " changes", b.undo(), NONE);
                due("count(0)", b.count(0), changes - kept);
            }
            CaretBench full = line("a".repeat(60));
            full.go(60, 0);
            for (int i = 0; i < 9; i++) {
                due("back()", full.back(), 1);
            }
            for (int more = 7; more >= 0; more--) {
                due("undo()", full.undo(), more);
            }
            due("undo() of the first back()", full.undo(), NONE);
            due("count(0)", full.count(0), 59);
        });
        of("Promise 22", "how many more can be", () -> {
            CaretBench b = typedOneByOne(8);
            due("undo()", b.undo(), 7);
            due("undo()", b.undo(), 6);
            due("undo()", b.undo(), 5);
            lineIs(b, "abcde");
            for (char sign : "VWXYZ".toCharArray()) {
                b.type(sign);
            }
            String[] lines = {"abcdeVWXY", "abcdeVWX", "abcdeVW", "abcdeV", "abcde", "abcd", "abc", "ab"};
            for (int i = 0; i < lines.length; i++) {
                due("undo()", b.undo(), 7 - i);
                lineIs(b, lines[i]);
            }
            due("undo() of what was pushed out", b.undo(), NONE);
            lineIs(b, "ab");
            b.type('c');
            due("undo() of one change more", b.undo(), 0);
            due("undo() is no change itself", b.undo(), NONE);
        });
    }

    private static void undoOfWhatIsNoChange() {
        of("Promise 22", "one by which no SIGN came or went is none)", () -> {
            CaretBench empty = new CaretBench();
            doNothing(empty);
            due("undo() behind calls that change nothing", empty.undo(), NONE);
            CaretBench b = typedOneByOne(8);
            doNothing(b);
            for (int more = 7; more >= 0; more--) {
                due("undo()", b.undo(), more);
            }
            due("undo() behind eight", b.undo(), NONE);
            due("count(0)", b.count(0), 0);
            CaretBench full = line("a".repeat(60));
            due("put on a full line", full.put('b', 0, 0, 0), -2);
            due("type in a full line", full.type('b'), false);
            due("undo() of the fourth put", full.undo(), 3);
            due("count(0)", full.count(0), 48);
        });
    }

    /* Every call that could change the line, with arguments by which it does not. */
    private static void doNothing(CaretBench b) {
        int end = b.count(0);
        due("put(0, 0, 0, 0)", b.put(0, 0, 0, 0), end);
        due("put of no sign", b.put('#', 0, 0, 0), -1);
        due("type of no sign", b.type('#'), false);
        due("cut(0, 0)", b.cut(0, 0), 0);
        due("cut(-1, 0)", b.cut(-1, 0), NONE);
        due("back() at 0", b.back(), 0);
        b.go(end, 0);
        due("ahead() at the end", b.ahead(), 0);
        if (end == 0) {
            due("clear() of an empty line", b.clear(), 0);
        }
        b.way(1);
        b.way(0);
        b.select(0, end);
        b.on(false);
        b.step(true);
        b.word(true);
        b.pick(7);
    }
}
