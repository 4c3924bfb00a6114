/** For each promise: ordinary inputs, the edges that the document names, and wrong inputs. */
public final class PromisesTest {
    private static int wrong = 0;
    private static int asked = 0;

    public static void main(String[] args) {
        newObject();
        way();
        put();
        putMovesCaret();
        clear();
        count();
        sign();
        levelsInOneRow();
        levelsOfMarksAndSeparators();
        levelsOfIsles();
        levelsAtTheEnd();
        clusters();
        clusterAnswers();
        seen();
        caret();
        go();
        on();
        step();
        stepOverJoined();
        word();
        pick();
        pickJoined();
        select();
        piece();
        back();
        ahead();
        type();
        cut();
        undo();
        System.out.println(asked + " answers asked, " + wrong + " wrong");
        if (wrong != 0) {
            System.exit(1);
        }
    }

    // ---- helpers

    private static void due(int promise, String what, Object got, Object want) {
        asked++;
        if (!got.equals(want)) {
            wrong++;
            System.out.println("promise " + promise + ": " + what + " answered " + got + ", due is " + want);
        }
    }

    private static int four(String text, int from) {
        int packed = 0;
        for (int i = from; i < from + 4; i++) {
            packed = packed << 8 | (i < text.length() ? text.charAt(i) : 0);
        }
        return packed;
    }

    private static int add(CaretBench bench, String text) {
        int answer = bench.count(0);
        for (int i = 0; i < text.length(); i += 16) {
            answer = bench.put(four(text, i), four(text, i + 4), four(text, i + 8), four(text, i + 12));
        }
        return answer;
    }

    private static CaretBench bench(String text) {
        CaretBench bench = new CaretBench();
        add(bench, text);
        return bench;
    }

    private static CaretBench backward(String text) {
        CaretBench bench = bench(text);
        bench.way(1);
        return bench;
    }

    private static CaretBench at(CaretBench bench, int stand, int side) {
        due(11, "go(" + stand + ", " + side + ")", bench.go(stand, side), true);
        return bench;
    }

    private static String text(CaretBench bench) {
        StringBuilder text = new StringBuilder();
        for (int i = 0; i < bench.count(0); i++) {
            text.append((char) bench.sign(i));
        }
        return text.toString();
    }

    private static String levels(CaretBench bench) {
        StringBuilder levels = new StringBuilder();
        for (int i = 0; i < bench.count(0); i++) {
            levels.append(i == 0 ? "" : " ").append(bench.level(i));
        }
        return levels.toString();
    }

    private static String sight(CaretBench bench) {
        StringBuilder sight = new StringBuilder();
        for (int v = 0; v < bench.count(1); v++) {
            sight.append((char) bench.seen(v));
        }
        return sight.toString();
    }

    private static String clustersOf(CaretBench bench) {
        StringBuilder all = new StringBuilder();
        for (int k = 0; k < bench.count(1); k++) {
            int first = bench.cluster(k, 0);
            all.append(k == 0 ? "" : "|").append(text(bench), first, first + bench.cluster(k, 1));
        }
        return all.toString();
    }

    private static String where(CaretBench bench) {
        return bench.caret(0) + "/" + bench.caret(1);
    }

    private static String whereX(CaretBench bench) {
        return where(bench) + "@" + bench.caret(2);
    }

    private static String pieces(CaretBench bench) {
        StringBuilder pieces = new StringBuilder();
        for (int k = 0; bench.piece(k, 0) != CaretBench.NONE; k++) {
            pieces.append(k == 0 ? "" : " ").append(bench.piece(k, 0)).append('-').append(bench.piece(k, 1));
        }
        return pieces.toString();
    }

    // ---- the promises

    private static void newObject() {
        CaretBench bench = new CaretBench();
        due(1, "signs", bench.count(0), 0);
        due(1, "caret", whereX(bench), "0/0@0");
        due(1, "way", bench.way(0), 0);
        due(1, "undo()", bench.undo(), -1);
        due(1, "piece(0, 0)", bench.piece(0, 0), -1);
        due(1, "NONE", CaretBench.NONE, -1);
    }

    private static void way() {
        CaretBench bench = at(bench("aB"), 1, 1);
        due(2, "way(1)", bench.way(1), 0);
        due(2, "levels", levels(bench), "2 1");
        due(2, "caret stays", where(bench), "1/1");
        due(2, "way(1)", bench.way(1), 1);
        due(2, "way(2)", bench.way(2), -1);
        due(2, "way(-1)", bench.way(-1), -1);
        due(2, "levels", levels(bench), "2 1");
        due(2, "way(0)", bench.way(0), 1);
        due(2, "levels", levels(bench), "0 1");
        bench.way(1);
        due(2, "clear()", bench.clear(), 2);
        due(2, "clear() leaves the way", bench.way(1), 1);
    }

    private static void put() {
        CaretBench bench = new CaretBench();
        due(3, "put highest first", bench.put(0x61626364, 0x41000042, 0x00000030, 0x7E000000), 8);
        due(3, "text", text(bench), "abcdAB0~");
        due(3, "caret stays", where(bench), "0/0");
        due(3, "put nothing", bench.put(0, 0, 0, 0), 8);
        due(3, "put #", bench.put(0x61, 0, 0, 0x23), -1);
        due(3, "put }", bench.put(0x7D, 0, 0, 0), -1);
        due(3, "put byte 128", bench.put(0x80, 0, 0, 0), -1);
        due(3, "put byte 255", bench.put(0, 0xFF000000, 0, 0), -1);
        due(3, "put tab", bench.put(9, 0, 0, 0), -1);
        due(3, "text stays", text(bench), "abcdAB0~");
        for (int sign = 1; sign < 256; sign++) {
            boolean is = "+-,. '~^()<>![{]".indexOf(sign) >= 0
                || sign >= 'a' && sign <= 'z' || sign >= 'A' && sign <= 'Z' || sign >= '0' && sign <= '9';
            due(3, "put " + sign, new CaretBench().put(0, sign << 16, 0, 0), is ? 1 : -1);
        }
        CaretBench full = bench("0123456789".repeat(5));
        due(3, "put 11 more", full.put(four("abcd", 0), four("abcd", 0), four("abc", 0), 0), -2);
        due(3, "all stays", full.count(0), 50);
        due(3, "put 10 more", full.put(four("abcd", 0), four("abcd", 0), four("ab", 0), 0), 60);
        due(3, "put one more", full.put(97, 0, 0, 0), -2);
        due(3, "put a wrong one more", full.put(97, 35, 0, 0), -1);
        due(3, "put none more", full.put(0, 0, 0, 0), 60);
    }

    private static void putMovesCaret() {
        CaretBench mark = at(bench("a"), 1, 1);
        due(3, "put ' behind the caret", mark.put('\'', 0, 0, 0), 2);
        due(3, "caret goes to the next stand", where(mark), "2/0");
        CaretBench join = at(bench("a"), 1, 1);
        add(join, "^b");
        due(3, "caret goes within the joined one", where(join), "2/0");
        CaretBench within = at(bench("a^"), 2, 1);
        add(within, "b");
        due(3, "side within a joined one", whereX(within), "2/0@8");
        CaretBench stays = at(bench("a"), 1, 1);
        add(stays, "b");
        due(3, "caret stays", where(stays), "1/1");
    }

    private static void clear() {
        CaretBench bench = at(bench("a bC"), 3, 1);
        due(4, "clear()", bench.clear(), 4);
        due(4, "signs", bench.count(0), 0);
        due(4, "caret", where(bench), "0/0");
        at(bench, 0, 1);
        due(4, "clear() of none", bench.clear(), 0);
        due(4, "caret", where(bench), "0/0");
    }

    private static void count() {
        CaretBench bench = bench("a^b'1 [C]!");
        due(5, "signs", bench.count(0), 10);
        due(5, "clusters", bench.count(1), 7);
        due(5, "stands", bench.count(2), 9);
        due(5, "width", bench.count(3), 16 + 8 + 5 + 6 + 10 + 6 + 6);
        due(5, "rows", bench.count(4), 2);
        due(5, "greatest level", bench.count(5), 3);
        due(5, "count(6)", bench.count(6), -1);
        due(5, "count(-1)", bench.count(-1), -1);
        CaretBench empty = new CaretBench();
        due(5, "stands of none", empty.count(2), 1);
        due(5, "width of none", empty.count(3), 0);
        due(5, "rows of none", empty.count(4), 0);
        due(5, "greatest level of none", empty.count(5), 0);
        empty.way(1);
        due(5, "greatest level of none, backward", empty.count(5), 1);
        due(5, "an empty isle is no row with signs", bench("[]a").count(4), 1);
        due(5, "isles side by side are rows of their own", bench("[a][b]").count(4), 3);
        due(5, "a plain ] begins nothing", bench("a]b]").count(4), 1);
        due(5, "greatest level of a mark within an isle", bench("['").count(5), 2);
    }

    private static void sign() {
        CaretBench bench = bench("a~9");
        due(6, "sign(0)", bench.sign(0), (int) 'a');
        due(6, "sign(1)", bench.sign(1), (int) '~');
        due(6, "sign(2)", bench.sign(2), (int) '9');
        due(6, "sign(3)", bench.sign(3), -1);
        due(6, "sign(-1)", bench.sign(-1), -1);
        due(6, "sign(least)", bench.sign(Integer.MIN_VALUE), -1);
        due(6, "sign(60)", bench("a".repeat(60)).sign(60), -1);
    }

    private static void levelsInOneRow() {
        due(7, "letters", levels(bench("aBc")), "0 1 0");
        due(7, "letters, backward", levels(backward("aBc")), "2 1 2");
        due(7, "digits with none ahead", levels(bench("1A1a1")), "0 1 2 0 0");
        due(7, "digits with none ahead, backward", levels(backward("1A1a1")), "2 1 2 2 2");
        due(7, "plain between backward ones", levels(bench("A!B")), "1 1 1");
        due(7, "plain between backward and forward", levels(bench("A!b!C!")), "1 0 0 0 1 0");
        due(7, "plain between backward and a digit", levels(bench("A!1!B")), "1 1 2 1 1");
        due(7, "plain between digits", levels(bench("A1!1")), "1 2 1 2");
        due(7, "plain between forward ones, backward", levels(backward("a!b")), "2 2 2");
        due(7, "plain at the ends", levels(bench("!A!")), "0 1 0");
        due(7, "plain at the ends, backward", levels(backward("!a!A!")), "1 2 1 1 1");
        due(7, "digit between, forward line backward way", levels(backward("a!1!A")), "2 2 2 1 1");
        due(7, "digit that stays one, backward", levels(backward("1!a")), "2 1 2");
        CaretBench bench = bench("aB");
        due(7, "level(2)", bench.level(2), -1);
        due(7, "level(-1)", bench.level(-1), -1);
        bench.cut(1, 2);
        due(7, "level of one that went", bench.level(1), -1);
    }

    private static void levelsOfMarksAndSeparators() {
        due(7, "mark behind a letter", levels(bench("A'a~")), "1 1 0 0");
        due(7, "mark behind a digit", levels(bench("A1'+2")), "1 2 2 2 2");
        due(7, "mark behind a separator", levels(bench("A1+'2")), "1 2 1 1 2");
        due(7, "mark at the beginning", levels(bench("'A")), "0 1");
        due(7, "mark at the beginning, backward", levels(backward("''a")), "1 1 2");
        due(7, "mark behind an isle", levels(bench("A[b]'C")), "1 1 2 1 1 1");
        due(7, "mark at an isle's beginning", levels(bench("A{'b")), "1 0 1 2");
        due(7, "mark behind a blank", levels(bench("A 'B")), "1 1 1 1");
        due(7, "separators", levels(bench("A1+2-3,4.5")), "1 2 2 2 2 2 2 2 2 2");
        due(7, "two separators", levels(bench("A1++2")), "1 2 1 1 2");
        due(7, "separator at the end", levels(bench("A1+")), "1 2 0");
        due(7, "separator beside an isle", levels(bench("A1+[]2")), "1 2 1 1 1 2");
        due(7, "separator between letters", levels(bench("A+B")), "1 1 1");
        due(7, "^ that joins", levels(bench("A^Ba")), "1 1 1 0");
        due(7, "^ that joins, behind a forward one", levels(backward("a^b")), "2 2 2");
        due(7, "^ that does not join", levels(bench("A^b")), "1 0 0");
    }

    private static void levelsOfIsles() {
        due(7, "forward isle", levels(bench("a[bC]d")), "0 0 2 3 0 0");
        due(7, "backward isle", levels(bench("a{bC]d")), "0 0 2 1 0 0");
        due(7, "forward isle, backward", levels(backward("a[bC]d")), "2 2 2 3 2 2");
        due(7, "backward isle, backward", levels(backward("a{bC]d")), "2 2 4 3 2 2");
        due(7, "isles within one another", levels(bench("[{[a]]]!")), "0 2 3 4 3 2 0 0");
        due(7, "isle without an end", levels(bench("A[b{C")), "1 0 2 2 3");
        due(7, "] without an isle", levels(bench("A]B]a")), "1 1 1 0 0");
        due(7, "rows go on behind an isle", levels(bench("A[b]1")), "1 1 2 1 2");
        due(7, "isle's row does not look out", levels(bench("A[1]")), "1 0 2 0");
        due(7, "isle signs between backward ones", levels(bench("A[b]C")), "1 1 2 1 1");
        StringBuilder deep = new StringBuilder();
        for (int i = 0; i < 59; i++) {
            deep.append('[');
        }
        due(7, "59 isles deep", bench(deep + "A").level(59), 119);
    }

    private static void levelsAtTheEnd() {
        due(7, "blanks at the end", levels(bench("A  ")), "1 0 0");
        due(7, "blanks at the end, backward", levels(backward("a  ")), "2 1 1");
        due(7, "blank in an isle at the end", levels(bench("{A ")), "0 1 0");
        due(7, "isle's end at the end", levels(backward("a[b ]")), "2 1 2 1 1");
        due(7, "isle's beginnings at the end", levels(bench("{A{ [")), "0 1 0 0 0");
        due(7, "a mark is behind the blank", levels(bench("{A '")), "0 1 1 1");
        due(7, "only blanks", levels(backward("  ")), "1 1");
    }

    private static void clusters() {
        due(8, "marks", clustersOf(bench("a'~b 'c")), "a'~|b| '|c");
        due(8, "marks at the beginning", clustersOf(bench("'~a'")), "'|~|a'");
        due(8, "joined", clustersOf(bench("a^b'~c")), "a^b'~|c");
        due(8, "joined backward", clustersOf(bench("A^Bc")), "A^B|c");
        due(8, "not of the same way", clustersOf(bench("a^B^c")), "a|^|B|^|c");
        due(8, "joined in a chain", clustersOf(bench("a^b^c^d")), "a^b|^|c^d");
        due(8, "mark ahead of ^", clustersOf(bench("a'^b")), "a'|^|b");
        due(8, "mark behind ^", clustersOf(bench("a^'b")), "a|^'|b");
        due(8, "no letter", clustersOf(bench("1^2^^a^")), "1|^|2|^|^|a|^");
        due(8, "^ at the beginning", clustersOf(bench("^a")), "^|a");
        due(8, "marks behind isle signs", clustersOf(bench("['a]'")), "['|a|]'");
    }

    private static void clusterAnswers() {
        CaretBench bench = bench("ab'A^B~1 ");
        due(8, "number", bench.count(1), 5);
        due(8, "first", bench.cluster(2, 0), 3);
        due(8, "signs", bench.cluster(2, 1), 4);
        due(8, "level", bench.cluster(2, 2), 1);
        due(8, "level", bench.cluster(3, 2), 2);
        due(8, "x", bench.cluster(2, 3), 28);
        due(8, "x", bench.cluster(3, 3), 20);
        due(8, "width of a letter", bench.cluster(1, 4), 10);
        due(8, "width of a joined one", bench.cluster(2, 4), 16);
        due(8, "width of a digit", bench.cluster(3, 4), 8);
        due(8, "width of a blank", bench.cluster(4, 4), 5);
        due(8, "width of another", bench("!").cluster(0, 4), 6);
        due(8, "width of a mark by itself", bench("'").cluster(0, 4), 6);
        due(8, "joined", bench.cluster(2, 5), 1);
        due(8, "joined", bench.cluster(1, 5), 0);
        due(8, "which from the left", bench.cluster(2, 6), 3);
        due(8, "which from the left", bench.cluster(3, 6), 2);
        CaretBench full = bench("A".repeat(60));
        due(8, "clusters of a full line", full.count(1), 60);
        due(8, "the last of a full line", full.cluster(59, 0) + " " + full.cluster(59, 3) + " " + full.cluster(59, 6), "59 0 0");
        due(8, "the first of a full line", full.cluster(0, 3) + " " + full.cluster(0, 6), "590 59");
        due(8, "cluster(0, 7)", bench.cluster(0, 7), -1);
        due(8, "cluster(0, -1)", bench.cluster(0, -1), -1);
        for (int what = 0; what < 7; what++) {
            due(8, "cluster(5, " + what + ")", bench.cluster(5, what), -1);
            due(8, "cluster(-1, " + what + ")", bench.cluster(-1, what), -1);
        }
    }

    private static void seen() {
        due(9, "both ways", sight(bench("ab CD 12 ef")), "ab 12 DC ef");
        due(9, "backward", sight(backward("ab CD 12 ef")), "ef 12 DC ab");
        due(9, "mates", sight(bench("A(<)>B")), "B<(>)A");
        due(9, "mates of an even level", sight(backward("a(<)>b")), "a(<)>b");
        due(9, "mates, backward line", sight(backward("(a)<A>")), "<A>(a)");
        due(9, "isle signs have no mates", sight(backward("a[b]{")), "{]b[a");
        due(9, "only the first sign", sight(bench("A'B^C")), "BA");
        due(9, "isles in one another", sight(bench("{A[bC]d]e")), "{d]bC[A]e");
        CaretBench bench = bench("aB");
        due(9, "seen(2)", bench.seen(2), -1);
        due(9, "seen(-1)", bench.seen(-1), -1);
        due(9, "seen(0) of none", new CaretBench().seen(0), -1);
    }

    private static void caret() {
        CaretBench bench = bench("ab CD ef");
        due(10, "caret(3)", bench.caret(3), -1);
        due(10, "caret(-1)", bench.caret(-1), -1);
        due(10, "with what is ahead", whereX(at(bench, 3, 0)), "3/0@25");
        due(10, "with what is behind", whereX(at(bench, 3, 1)), "3/1@45");
        due(10, "ahead is backward", whereX(at(bench, 5, 0)), "5/0@25");
        due(10, "behind is forward", whereX(at(bench, 5, 1)), "5/1@45");
        due(10, "none ahead", whereX(at(bench, 0, 0)), "0/0@0");
        due(10, "none behind", whereX(at(bench, 8, 1)), "8/1@70");
        bench.way(1);
        due(10, "none ahead, backward", whereX(at(bench, 0, 0)), "0/0@70");
        due(10, "none behind, backward", whereX(at(bench, 8, 1)), "8/1@0");
        due(10, "within a joined one", whereX(at(bench("1A^B"), 3, 0)), "3/0@16");
        due(10, "none at all, backward", whereX(backward("")), "0/0@0");
    }

    private static void go() {
        CaretBench bench = bench("a'b^c'");
        due(11, "go(1, 0)", bench.go(1, 0), false);
        due(11, "go(2, 0)", bench.go(2, 0), true);
        due(11, "go(2, 2)", bench.go(2, 2), false);
        due(11, "go(2, -1)", bench.go(2, -1), false);
        due(11, "go(3, 0)", bench.go(3, 0), false);
        due(11, "go(4, 1)", bench.go(4, 1), false);
        due(11, "go(5, 0)", bench.go(5, 0), false);
        due(11, "go(7, 0)", bench.go(7, 0), false);
        due(11, "go(-1, 0)", bench.go(-1, 0), false);
        due(11, "go(61, 0)", bench.go(61, 0), false);
        due(11, "caret", where(bench), "2/0");
        due(11, "go(4, 0)", bench.go(4, 0), true);
        due(11, "caret", where(bench), "4/0");
        due(11, "go(6, 1)", bench.go(6, 1), true);
        due(11, "caret", where(bench), "6/1");
    }

    private static void on() {
        CaretBench bench = bench("a'b^cD");
        String all = "";
        while (bench.on(true)) {
            all += where(bench) + " ";
        }
        due(12, "on", all, "2/0 4/0 5/0 6/0 ");
        due(12, "on at the end", where(bench), "6/0");
        all = "";
        while (bench.on(false)) {
            all += where(bench) + " ";
        }
        due(12, "back", all, "5/1 4/0 2/1 0/1 ");
        due(12, "back at 0", where(bench), "0/1");
        at(bench, 6, 1);
        due(12, "on at the end", bench.on(true), false);
        due(12, "the caret stays", where(bench), "6/1");
    }

    private static void step() {
        CaretBench bench = at(bench("ab CD 1e"), 0, 0);
        String all = "";
        while (bench.step(true)) {
            all += whereX(bench) + " ";
        }
        // seen: a b _ 1 _ D C e
        due(13, "right", all, "1/0@10 2/0@20 3/0@25 7/0@33 5/1@38 4/1@48 3/1@58 8/0@68 ");
        due(13, "right at the end", where(bench), "8/0");
        all = "";
        while (bench.step(false)) {
            all += whereX(bench) + " ";
        }
        due(13, "left", all, "7/1@58 4/0@48 5/0@38 6/0@33 6/1@25 2/1@20 1/1@10 0/1@0 ");
        CaretBench none = new CaretBench();
        due(13, "step of none", none.step(true) || none.step(false), false);
        CaretBench end = backward("ab");
        due(13, "left at the right end of a backward line", end.step(false), true);
        due(13, "over the last one seen", where(end), "1/1");
        at(end, 0, 0);
        due(13, "right at the right end", end.step(true), false);
    }

    private static void stepOverJoined() {
        CaretBench forward = at(bench("1a^b"), 1, 1);
        due(13, "right to the middle", forward.step(true), true);
        due(13, "the middle", whereX(forward), "3/0@16");
        due(13, "right from the middle", forward.step(true), true);
        due(13, "the right side", whereX(forward), "4/0@24");
        forward.step(false);
        due(13, "left to the middle", whereX(forward), "3/0@16");
        forward.step(false);
        due(13, "the left side", whereX(forward), "1/1@8");
        CaretBench odd = at(bench("A^Bc"), 0, 0);
        odd.step(true);
        due(13, "the middle of a backward one", whereX(odd), "2/0@8");
        odd.step(true);
        due(13, "the right side of a backward one", whereX(odd), "0/1@16");
        odd.step(false);
        odd.step(false);
        due(13, "the left side of a backward one", whereX(odd), "3/0@0");
    }

    private static void word() {
        CaretBench bench = bench("ab  'CD, 1+2 e^f!");
        String all = "";
        while (bench.word(true)) {
            all += where(bench) + " ";
        }
        due(14, "on", all, "5/1 9/1 11/1 13/1 17/0 ");
        at(bench, 17, 1);
        due(14, "on at the end", bench.word(true), false);
        due(14, "the caret stays", where(bench), "17/1");
        all = "";
        while (bench.word(false)) {
            all += where(bench) + " ";
        }
        due(14, "back", all, "13/1 11/1 9/1 5/1 0/1 ");
        at(bench, 0, 0);
        due(14, "back at 0", bench.word(false), false);
        due(14, "the caret stays", where(bench), "0/0");
        at(bench, 15, 0);
        bench.word(false);
        due(14, "back from within a joined one", where(bench), "13/1");
        CaretBench blank = bench(" a");
        blank.word(true);
        due(14, "on over the first", where(blank), "1/1");
        CaretBench mark = bench("'a1");
        mark.word(true);
        due(14, "a mark by itself begins no word", where(mark), "1/1");
    }

    private static void pick() {
        CaretBench bench = bench("ab CD ef");
        due(15, "pick(4)", bench.pick(4), 0);
        due(15, "caret", where(bench), "0/1");
        due(15, "pick(5)", bench.pick(5), 1);
        due(15, "caret", where(bench), "1/0");
        due(15, "left half of a blank", bench.pick(22), 2);
        due(15, "right half of a blank", bench.pick(23), 3);
        due(15, "left half of a backward one", bench.pick(29), 5);
        due(15, "caret", whereX(bench), "5/0@25");
        due(15, "middle of a backward one", bench.pick(30), 4);
        due(15, "caret", whereX(bench), "4/1@35");
        due(15, "a left side", bench.pick(35), 4);
        due(15, "caret", whereX(bench), "4/0@35");
        due(15, "left of all", bench.pick(-1), 0);
        due(15, "far left of all", bench.pick(Integer.MIN_VALUE), 0);
        due(15, "caret", where(bench), "0/1");
        due(15, "right of all", bench.pick(70), 8);
        due(15, "far right of all", bench.pick(Integer.MAX_VALUE), 8);
        due(15, "caret", where(bench), "8/0");
        bench.way(1);
        due(15, "left of all, backward", bench.pick(-1), 6);
        due(15, "caret", where(bench), "6/1");
        due(15, "right of all, backward", bench.pick(99), 2);
        due(15, "caret", where(bench), "2/0");
        CaretBench none = at(new CaretBench(), 0, 1);
        due(15, "pick of none", none.pick(3), 0);
        due(15, "caret of none", where(none), "0/0");
    }

    private static void pickJoined() {
        CaretBench even = bench("a^b");
        int[] points = {0, 3, 4, 8, 11, 12, 15};
        String all = "";
        for (int x : points) {
            even.pick(x);
            all += where(even) + " ";
        }
        due(15, "a joined one", all, "0/1 0/1 2/0 2/0 2/0 3/0 3/0 ");
        CaretBench odd = bench("A^B'");
        all = "";
        for (int x : points) {
            odd.pick(x);
            all += where(odd) + " ";
        }
        due(15, "a backward joined one", all, "4/0 4/0 2/0 2/0 2/0 0/1 0/1 ");
    }

    private static void select() {
        CaretBench bench = bench("ab CD^E f");
        due(16, "forward ones", bench.select(0, 2), 1);
        due(16, "over the turn", bench.select(1, 4), 2);
        due(16, "in any order", bench.select(4, 1), 2);
        due(16, "all", bench.select(0, 9), 1);
        due(16, "nothing", bench.select(3, 3), 0);
        due(16, "within a joined one", bench.select(0, 6), -1);
        due(16, "within a joined one first", bench.select(6, 7), -1);
        due(16, "no stand", bench.select(5, 7), -1);
        due(16, "beyond the end", bench.select(0, 10), -1);
        due(16, "below 0", bench.select(-1, 0), -1);
        due(16, "of none", new CaretBench().select(0, 0), 0);
        due(16, "three pieces", bench("aBC1dEF").select(2, 6), 3);
    }

    private static void piece() {
        CaretBench bench = bench("ab CD ef");
        due(17, "before any select()", bench.piece(0, 0), -1);
        bench.select(4, 1);
        due(17, "pieces", pieces(bench), "10-25 35-45");
        due(17, "piece(2, 0)", bench.piece(2, 0), -1);
        due(17, "piece(2, 1)", bench.piece(2, 1), -1);
        due(17, "piece(-1, 0)", bench.piece(-1, 0), -1);
        due(17, "piece(0, 2)", bench.piece(0, 2), -1);
        due(17, "piece(0, -1)", bench.piece(0, -1), -1);
        bench.select(0, 9);
        due(17, "a refused select() leaves them", pieces(bench), "10-25 35-45");
        bench.select(0, 0);
        due(17, "an empty select() has none", pieces(bench), "");
        bench.select(0, 8);
        due(17, "all", pieces(bench), "0-70");
        bench.clear();
        due(17, "they stay when the line changes", pieces(bench), "0-70");
    }

    private static void back() {
        CaretBench marks = at(bench("ab'~c"), 4, 1);
        due(18, "the last mark", marks.back(), 1);
        due(18, "text", text(marks), "ab'c");
        due(18, "caret", where(marks), "3/1");
        due(18, "the mark", marks.back(), 1);
        due(18, "the letter", marks.back(), 1);
        due(18, "text", text(marks), "ac");
        due(18, "caret", where(marks), "1/1");
        due(18, "the first", marks.back(), 1);
        due(18, "caret", where(marks), "0/1");
        at(marks, 0, 0);
        due(18, "at the beginning", marks.back(), 0);
        due(18, "the caret stays", where(marks), "0/0");
        CaretBench joined = at(bench("1a^b'2"), 3, 0);
        due(18, "within a joined one", joined.back(), 4);
        due(18, "text", text(joined), "12");
        due(18, "caret", where(joined), "1/1");
        due(18, "behind a joined one", at(bench("a^bc"), 3, 1).back(), 3);
        due(18, "the mark of a joined one", at(bench("a^b'"), 4, 0).back(), 1);
        CaretBench join = at(bench("a'^b"), 2, 0);
        due(18, "what makes a joined one", join.back(), 1);
        due(18, "caret goes on within it", where(join), "2/0");
        CaretBench within = at(bench("a^Xb"), 3, 1);
        due(18, "what makes a joined one", within.back(), 1);
        due(18, "no side 1 within it", where(within), "2/0");
        CaretBench leading = at(bench("''a"), 2, 0);
        due(18, "a mark at the beginning", leading.back(), 1);
        due(18, "text", text(leading), "'a");
    }

    private static void ahead() {
        CaretBench bench = at(bench("ab'~c"), 1, 1);
        due(19, "a letter with its marks", bench.ahead(), 3);
        due(19, "text", text(bench), "ac");
        due(19, "caret", where(bench), "1/0");
        due(19, "the last", bench.ahead(), 1);
        at(bench, 1, 1);
        due(19, "at the end", bench.ahead(), 0);
        due(19, "the caret stays", where(bench), "1/1");
        CaretBench joined = at(bench("1a^b'2"), 3, 0);
        due(19, "within a joined one", joined.ahead(), 4);
        due(19, "text", text(joined), "12");
        due(19, "caret", where(joined), "1/0");
        due(19, "ahead of a joined one", at(bench("a^b"), 0, 0).ahead(), 3);
        CaretBench join = at(bench("aX^b"), 1, 1);
        due(19, "what makes a joined one", join.ahead(), 1);
        due(19, "caret goes on within it", where(join), "2/0");
        due(19, "of none", new CaretBench().ahead(), 0);
    }

    private static void type() {
        CaretBench bench = at(bench("ab"), 1, 1);
        due(20, "type(C)", bench.type('C'), true);
        due(20, "text", text(bench), "aCb");
        due(20, "caret", where(bench), "2/0");
        due(20, "type(35)", bench.type(35), false);
        due(20, "type(0)", bench.type(0), false);
        due(20, "type(-1)", bench.type(-1), false);
        due(20, "type(256 + a)", bench.type(256 + 'a'), false);
        due(20, "type(65536 + a)", bench.type(65536 + 'a'), false);
        due(20, "type(})", bench.type('}'), false);
        due(20, "text stays", text(bench), "aCb");
        due(20, "caret stays", where(bench), "2/0");
        CaretBench joined = at(bench("a^b"), 2, 0);
        due(20, "within a joined one", joined.type('c'), true);
        due(20, "text", text(joined), "a^cb");
        due(20, "caret", where(joined), "3/0");
        CaretBench join = at(bench("ab"), 1, 0);
        join.type('^');
        due(20, "what joins", where(join), "2/0");
        CaretBench before = at(bench("^b"), 0, 0);
        before.type('a');
        due(20, "what joins from ahead", where(before), "2/0");
        CaretBench marks = at(bench("'~"), 0, 0);
        marks.type('a');
        due(20, "ahead of marks", where(marks), "3/0");
        CaretBench full = bench("a".repeat(59));
        due(20, "the 60th", full.type('b'), true);
        due(20, "the 61st", full.type('b'), false);
        due(20, "signs", full.count(0), 60);
    }

    private static void cut() {
        CaretBench bench = at(bench("ab'cde"), 6, 0);
        due(21, "cut(1, 4)", bench.cut(1, 4), 3);
        due(21, "text", text(bench), "ade");
        due(21, "caret", where(bench), "1/0");
        due(21, "in any order", bench.cut(3, 2), 1);
        due(21, "text", text(bench), "ad");
        at(bench, 0, 1);
        due(21, "of nothing", bench.cut(1, 1), 0);
        due(21, "caret goes there", where(bench), "1/0");
        due(21, "cut(0, 3)", bench.cut(0, 3), -1);
        due(21, "cut(-1, 0)", bench.cut(-1, 0), -1);
        due(21, "the caret stays", where(bench), "1/0");
        due(21, "no stand", bench("a'").cut(0, 1), -1);
        CaretBench joined = bench("a^b^c");
        due(21, "within a joined one", joined.cut(2, 4), 2);
        due(21, "text", text(joined), "a^c");
        due(21, "caret within a joined one", where(joined), "2/0");
        due(21, "from within", joined.cut(0, 2), 2);
        due(21, "text", text(joined), "c");
        CaretBench join = bench("a1^b");
        join.cut(2, 1);
        due(21, "caret goes on within what joins", where(join), "2/0");
    }

    private static void undo() {
        CaretBench bench = at(bench("ab"), 1, 1);
        bench.type('x');
        bench.go(3, 1);
        bench.way(1);
        due(22, "undo()", bench.undo(), 1);
        due(22, "text", text(bench), "ab");
        due(22, "caret", where(bench), "1/1");
        due(22, "not the way", bench.way(0), 1);
        due(22, "undo() of put()", bench.undo(), 0);
        due(22, "caret", where(bench), "0/0");
        due(22, "undo() of none", bench.undo(), -1);
        CaretBench none = bench("a");
        none.put(0, 0, 0, 0);
        none.put(35, 0, 0, 0);
        none.back();
        none.cut(1, 1);
        none.ahead();
        none.type(35);
        none.cut(7, 8);
        due(22, "what changes nothing is none", none.undo(), 0);
        none.clear();
        due(22, "clear() of none is none", none.undo(), -1);
        CaretBench each = at(bench("abcdef"), 3, 1);
        each.back();
        each.ahead();
        each.cut(0, 2);
        each.clear();
        due(22, "clear()", each.undo() + text(each) + where(each), "4ef0/0");
        due(22, "cut()", each.undo() + text(each) + where(each), "3abef2/0");
        due(22, "ahead()", each.undo() + text(each) + where(each), "2abdef2/1");
        due(22, "back()", each.undo() + text(each) + where(each), "1abcdef3/1");
        CaretBench many = new CaretBench();
        for (char sign = 'a'; sign <= 'l'; sign++) {
            many.type(sign);
        }
        for (int left = 7; left >= 0; left--) {
            due(22, "the latest eight", many.undo(), left);
        }
        due(22, "no more than eight", many.undo(), -1);
        due(22, "text", text(many), "abcd");
        many.type('z');
        due(22, "undo() once more", many.undo(), 0);
        due(22, "text", text(many), "abcd");
    }
}
