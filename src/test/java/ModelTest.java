import java.util.ArrayList;
import java.util.Collections;
import java.util.List;
import java.util.Random;
import java.util.regex.Matcher;
import java.util.regex.Pattern;

/**
 * Runs of calls, the same ones each time, on the class and on a model of the document that works everything
 * out anew for each question, with texts and lists. Every answer and the whole state must agree.
 *
 * The state is asked of new objects on which the same calls are made again, so that no object is used for
 * more than 512 calls: what it answers after them is free.
 */
public final class ModelTest {
    private static final int RUNS = 2000;
    private static final int CALLS = 60;
    private static final int CALLS_BETWEEN_STATES = 4;

    public static void main(String[] args) {
        int wrong = 0;
        for (int seed = 0; seed < RUNS && wrong < 5; seed++) {
            String fault = run(seed);
            if (fault != null) {
                wrong++;
                System.out.println("run " + seed + ": " + fault);
            }
        }
        System.out.println(wrong == 0 ? RUNS + " runs agree with the model" : wrong + " runs do not agree");
        if (wrong != 0) {
            System.exit(1);
        }
    }

    private static String run(int seed) {
        Random random = new Random(seed);
        CaretBench bench = new CaretBench();
        Model model = new Model();
        List<Call> calls = new ArrayList<>();
        for (int c = 1; c <= CALLS; c++) {
            Call call = Call.any(random, model.line.length(), seed % 4);
            calls.add(call);
            int got = call.on(bench);
            int want = call.on(model);
            if (got != want) {
                return calls + " answered " + got + ", due is " + want + " in " + model;
            }
            if (c % CALLS_BETWEEN_STATES == 0) {
                String state = stateBehind(calls);
                if (!state.equals(model.state())) {
                    return calls + " left " + state + ", due is " + model.state() + " in " + model;
                }
            }
        }
        return null;
    }

    private static CaretBench benchBehind(List<Call> calls) {
        CaretBench bench = new CaretBench();
        for (Call call : calls) {
            call.on(bench);
        }
        return bench;
    }

    private static String stateBehind(List<Call> calls) {
        CaretBench b = benchBehind(calls);
        CaretBench forClusters = benchBehind(calls);
        StringBuilder s = new StringBuilder();
        for (int what = 0; what < 6; what++) {
            s.append(b.count(what)).append(' ');
        }
        for (int what = 0; what < 3; what++) {
            s.append(b.caret(what)).append(' ');
        }
        s.append("signs ");
        int signs = b.count(0);
        for (int i = 0; i < signs; i++) {
            s.append((char) b.sign(i)).append(b.level(i)).append(' ');
        }
        s.append("clusters ");
        int clusters = b.count(1);
        for (int k = 0; k < clusters; k++) {
            for (int what = 0; what < 7; what++) {
                s.append(forClusters.cluster(k, what)).append(' ');
            }
            s.append((char) b.seen(k)).append(' ');
        }
        s.append("pieces ");
        for (int k = 0; b.piece(k, 0) != -1; k++) {
            s.append(b.piece(k, 0)).append('-').append(b.piece(k, 1)).append(' ');
        }
        return s.toString();
    }

    private record Call(String name, int a, int b, int c, int d) {
        private static final String[] SIGNS = {
            "abcXYZ0123456789+-,. '~^()<>![{]", "aaabABB^^^''~ 1", "aA1+,'[[{{]]  ", "abAB12 []{}#^'"};
        private static final String[] NAMES = {
            "put", "put", "put", "clear", "way", "go", "go", "on", "step", "step", "step", "word", "pick", "pick",
            "select", "back", "ahead", "type", "type", "type", "type", "cut", "undo"};

        static Call any(Random r, int length, int kind) {
            String name = NAMES[r.nextInt(NAMES.length)];
            if (name.equals("clear") && r.nextInt(4) > 0) {
                name = "type";
            }
            switch (name) {
                case "put":
                    return new Call(name, four(r, kind), four(r, kind), r.nextInt(3) > 0 ? 0 : four(r, kind), 0);
                case "type":
                    return new Call(name, r.nextInt(40) == 0 ? r.nextInt() : any(r, kind), 0, 0, 0);
                case "way":
                    return new Call(name, r.nextInt(4) - 1, 0, 0, 0);
                case "go":
                    return new Call(name, r.nextInt(length + 3) - 1, r.nextInt(8) == 0 ? r.nextInt(5) - 2 : r.nextInt(2), 0, 0);
                case "pick":
                    return new Call(name, r.nextInt(20) == 0 ? r.nextInt() : r.nextInt(length * 10 + 10) - 5, 0, 0, 0);
                case "cut":
                    int from = r.nextInt(length + 3) - 1;
                    return new Call(name, from, from + r.nextInt(9) - 4, 0, 0);
                default:
                    return new Call(name, r.nextInt(length + 3) - 1, r.nextInt(length + 3) - 1, 0, 0);
            }
        }

        private static char any(Random r, int kind) {
            return SIGNS[kind].charAt(r.nextInt(SIGNS[kind].length()));
        }

        private static int four(Random r, int kind) {
            int four = 0;
            for (int i = 0; i < 4; i++) {
                four = four << 8 | (r.nextInt(4) == 0 ? 0 : any(r, kind));
            }
            return four;
        }

        private static int one(boolean answer) {
            return answer ? 1 : 0;
        }

        int on(CaretBench x) {
            switch (name) {
                case "put": return x.put(a, b, c, d);
                case "clear": return x.clear();
                case "way": return x.way(a);
                case "go": return one(x.go(a, b));
                case "on": return one(x.on((a & 1) == 0));
                case "step": return one(x.step((a & 1) == 0));
                case "word": return one(x.word((a & 1) == 0));
                case "pick": return x.pick(a);
                case "select": return x.select(a, b);
                case "back": return x.back();
                case "ahead": return x.ahead();
                case "type": return one(x.type(a));
                case "cut": return x.cut(a, b);
                default: return x.undo();
            }
        }

        int on(Model x) {
            switch (name) {
                case "put": return x.put(new int[] {a, b, c, d});
                case "clear": return x.clear();
                case "way": return x.way(a);
                case "go": return one(x.go(a, b));
                case "on": return one(x.on((a & 1) == 0));
                case "step": return one(x.step((a & 1) == 0));
                case "word": return one(x.word((a & 1) == 0));
                case "pick": return x.pick(a);
                case "select": return x.select(a, b);
                case "back": return x.back();
                case "ahead": return x.ahead();
                case "type": return one(x.type(a));
                case "cut": return x.cut(a, b);
                default: return x.undo();
            }
        }
    }

    private record Cluster(int first, int end, boolean joined, int level, int width) {
    }

    private record Kept(String line, int stand, int side) {
    }

    private static final class Model {
        private static final String SIGNS = "[-a-zA-Z0-9+,. '~^()<>!\\[{\\]]";
        private static final Pattern CLUSTER = Pattern.compile("(?s)^['~]|([a-z]\\^[a-z]|[A-Z]\\^[A-Z]|[^'~])['~]*");

        private static final Pattern JOINED = Pattern.compile("[a-z]\\^[a-z]|[A-Z]\\^[A-Z]");

        String line = "";
        int way = 0;
        int stand = 0;
        int side = 0;
        final List<Kept> kept = new ArrayList<>();
        String pieces = "";

        // ---- what is worked out is kept for as long as neither the line nor its way is another

        private String workedOutFor = null;
        private int[] levels;
        private List<Cluster> clusters;
        private List<Cluster> sight;

        private void workOut() {
            if (!(line + way).equals(workedOutFor)) {
                levels = findLevels();
                clusters = findClusters();
                sight = findSight();
                workedOutFor = line + way;
            }
        }

        int[] levels() {
            workOut();
            return levels;
        }

        List<Cluster> clusters() {
            workOut();
            return clusters;
        }

        List<Cluster> sight() {
            workOut();
            return sight;
        }

        // ---- clusters, by one pattern from the left on: it takes a joined one where one can begin

        private List<Cluster> findClusters() {
            List<Cluster> all = new ArrayList<>();
            int at = 0;
            boolean leading = true;
            while (at < line.length()) {
                String rest = line.substring(at);
                boolean mark = leading && isMark(rest.charAt(0));
                leading = mark;
                Matcher m = CLUSTER.matcher(rest);
                if (!m.lookingAt()) {
                    throw new IllegalStateException("no cluster in " + rest);
                }
                int size = mark ? 1 : m.end();
                boolean joined = !mark && JOINED.matcher(rest).lookingAt();
                all.add(new Cluster(at, at + size, joined, levels[at], joined ? 16 : width(rest.charAt(0))));
                at += size;
            }
            return all;
        }

        private static int width(char sign) {
            return Character.isLetter(sign) ? 10 : Character.isDigit(sign) ? 8 : sign == ' ' ? 5 : 6;
        }

        private static boolean isMark(char sign) {
            return sign == '\'' || sign == '~';
        }

        // ---- levels, row by row, each row as a text of kinds: F, B, 1, + (separators), _ (plain and blanks)

        private int[] findLevels() {
            int[] levels = new int[line.length()];
            for (Row row : rows()) {
                String kinds = row.kinds(line);
                for (int i = 0; i < kinds.length(); i++) {
                    levels[row.signs.get(i)] = row.base + rise(kinds.charAt(i), row.base % 2);
                }
            }
            String kept = line.replaceAll("[ \\[{\\]]+$", "");
            for (int i = kept.length(); i < line.length(); i++) {
                levels[i] = way;
            }
            return levels;
        }

        private static int rise(char kind, int odd) {
            switch (kind) {
                case 'F': return odd == 0 ? 0 : 1;
                case 'B': return odd == 0 ? 1 : 0;
                default: return odd == 0 ? 2 : 1;
            }
        }

        List<Row> rows() {
            List<Row> all = new ArrayList<>();
            List<Row> open = new ArrayList<>();
            open.add(new Row(way));
            all.add(open.get(0));
            for (int i = 0; i < line.length(); i++) {
                char sign = line.charAt(i);
                if (sign == ']' && open.size() > 1) {
                    open.remove(open.size() - 1);
                }
                Row row = open.get(open.size() - 1);
                row.signs.add(i);
                if (sign == '[' || sign == '{') {
                    int base = row.base + 1;
                    while (base % 2 != (sign == '[' ? 0 : 1)) {
                        base++;
                    }
                    Row isle = new Row(base);
                    open.add(isle);
                    all.add(isle);
                }
            }
            return all;
        }

        private static final class Row {
            final int base;
            final List<Integer> signs = new ArrayList<>();

            Row(int base) {
                this.base = base;
            }

            String kinds(String line) {
                char own = base % 2 == 0 ? 'F' : 'B';
                StringBuilder first = new StringBuilder();
                for (int i : signs) {
                    char sign = line.charAt(i);
                    boolean joins = sign == '^' && joinsAt(line, i);
                    if (isMark(sign) || joins) {
                        first.append(first.length() == 0 ? own : first.charAt(first.length() - 1));
                    } else if (Character.isLetter(sign)) {
                        first.append(Character.isLowerCase(sign) ? 'F' : 'B');
                    } else {
                        first.append(Character.isDigit(sign) ? '1' : "+-,.".indexOf(sign) >= 0 ? '+' : '_');
                    }
                }
                String kinds = first.toString().replaceAll("(?<=1)\\+(?=1)", "1").replace('+', '_');
                // the row's own way stands at both ends while what is between is settled
                String whole = own + kinds + own;
                return settlePlain(settleDigits(whole), own).substring(1, whole.length() - 1);
            }

            private static String settleDigits(String whole) {
                StringBuilder done = new StringBuilder(whole);
                for (int i = 1; i < whole.length(); i++) {
                    String ahead = whole.substring(0, i);
                    if (whole.charAt(i) == '1' && ahead.lastIndexOf('F') > ahead.lastIndexOf('B')) {
                        done.setCharAt(i, 'F');
                    }
                }
                return done.toString();
            }

            private static String settlePlain(String whole, char own) {
                StringBuilder done = new StringBuilder(whole);
                Matcher m = Pattern.compile("_+").matcher(whole);
                while (m.find()) {
                    char ahead = whole.charAt(m.start() - 1);
                    char behind = whole.charAt(m.end());
                    boolean forward = ahead == 'F' && behind == 'F';
                    boolean backward = ahead != 'F' && behind != 'F';
                    char kind = forward ? 'F' : backward ? 'B' : own;
                    for (int i = m.start(); i < m.end(); i++) {
                        done.setCharAt(i, kind);
                    }
                }
                return done.toString();
            }

            private static boolean joinsAt(String line, int i) {
                if (i < 1 || i + 1 >= line.length() || line.charAt(i) != '^') {
                    return false;
                }
                return line.substring(i - 1, i + 2).matches("[a-z].[a-z]|[A-Z].[A-Z]") && !joinsAt(line, i - 2);
            }
        }

        // ---- sight

        private List<Cluster> findSight() {
            List<Cluster> order = new ArrayList<>(clusters);
            int highest = 0;
            for (Cluster k : order) {
                highest = Math.max(highest, k.level);
            }
            for (int level = highest; level > 0; level--) {
                int at = 0;
                while (at < order.size()) {
                    int end = at;
                    while (end < order.size() && order.get(end).level >= level) {
                        end++;
                    }
                    Collections.reverse(order.subList(at, end));
                    at = end + 1;
                }
            }
            return order;
        }

        int left(Cluster of) {
            int x = 0;
            for (Cluster k : sight()) {
                if (k.first == of.first) {
                    return x;
                }
                x += k.width;
            }
            throw new IllegalStateException();
        }

        int right(Cluster of) {
            return left(of) + of.width;
        }

        int total() {
            return clusters().stream().mapToInt(k -> k.width).sum();
        }

        Cluster within(int s) {
            return clusters().stream().filter(k -> k.joined && k.first + 2 == s).findFirst().orElse(null);
        }

        Cluster aheadOf(int s) {
            return clusters().stream().filter(k -> k.end == s).findFirst().orElse(null);
        }

        Cluster behind(int s) {
            return clusters().stream().filter(k -> k.first == s).findFirst().orElse(null);
        }

        boolean between(int s) {
            return s == 0 || aheadOf(s) != null;
        }

        List<Integer> stands() {
            List<Integer> all = new ArrayList<>();
            for (int s = 0; s <= line.length(); s++) {
                if (between(s) || within(s) != null) {
                    all.add(s);
                }
            }
            return all;
        }

        int x() {
            if (within(stand) != null) {
                return left(within(stand)) + 8;
            }
            Cluster k = side == 0 ? aheadOf(stand) : behind(stand);
            if (k == null) {
                return (side == 0) == (way == 0) ? 0 : total();
            }
            return (k.level % 2 == 0) == (side == 1) ? left(k) : right(k);
        }

        // ---- the calls

        private boolean place(int s, int d) {
            stand = s;
            side = within(s) != null ? 0 : d;
            return true;
        }

        private void changed(String now, int s, int d) {
            kept.add(new Kept(line, stand, side));
            if (kept.size() > 8) {
                kept.remove(0);
            }
            line = now;
            settle(s, d);
        }

        private void settle(int s, int d) {
            List<Integer> stands = stands();
            if (stands.contains(s)) {
                place(s, d);
            } else {
                place(stands.stream().filter(t -> t > s).findFirst().orElseThrow(), 0);
            }
        }

        private static boolean isSign(int sign) {
            return sign > 0 && sign < 128 && Character.toString(sign).matches(SIGNS);
        }

        int way(int w) {
            if (w < 0 || w > 1) {
                return -1;
            }
            int old = way;
            way = w;
            return old;
        }

        int put(int[] words) {
            StringBuilder more = new StringBuilder();
            for (int word : words) {
                for (int shift = 24; shift >= 0; shift -= 8) {
                    int sign = word >> shift & 255;
                    if (sign != 0 && !isSign(sign)) {
                        return -1;
                    }
                    more.append(sign == 0 ? "" : Character.toString(sign));
                }
            }
            if (line.length() + more.length() > 60) {
                return -2;
            }
            if (more.length() > 0) {
                changed(line + more, stand, side);
            }
            return line.length();
        }

        private int strike(int from, int to, int d) {
            if (from == to) {
                place(from, d);
            } else {
                changed(line.substring(0, from) + line.substring(to), from, d);
            }
            return to - from;
        }

        int clear() {
            return strike(0, line.length(), 0);
        }

        boolean go(int s, int d) {
            boolean may = stands().contains(s) && (d == 0 || d == 1 && within(s) == null);
            return may && place(s, d);
        }

        boolean on(boolean on) {
            List<Integer> stands = stands();
            int next = stands.indexOf(stand) + (on ? 1 : -1);
            return next >= 0 && next < stands.size() && place(stands.get(next), on ? 0 : 1);
        }

        private boolean toSide(Cluster k, boolean right) {
            return right == (k.level % 2 == 0) ? place(k.end, 0) : place(k.first, 1);
        }

        boolean step(boolean right) {
            if (within(stand) != null) {
                return toSide(within(stand), right);
            }
            int x = x();
            for (Cluster k : sight()) {
                if ((right ? left(k) : right(k)) == x) {
                    return k.joined ? place(k.first + 2, 0) : toSide(k, right);
                }
            }
            return false;
        }

        private boolean isWord(Cluster k) {
            return Character.isLetterOrDigit(line.charAt(k.first));
        }

        boolean word(boolean on) {
            if (stand == (on ? line.length() : 0)) {
                return false;
            }
            List<Integer> starts = new ArrayList<>();
            for (int s : stands()) {
                boolean there = on ? s > stand : s < stand;
                if (there && aheadOf(s) != null && behind(s) != null && !isWord(aheadOf(s)) && isWord(behind(s))) {
                    starts.add(s);
                }
            }
            if (starts.isEmpty()) {
                return on ? place(line.length(), 0) : place(0, 1);
            }
            return place(starts.get(on ? 0 : starts.size() - 1), 1);
        }

        int pick(int x) {
            List<Cluster> sight = sight();
            if (sight.isEmpty()) {
                place(0, 0);
            } else if (x < 0) {
                toSide(sight.get(0), false);
            } else if (x >= total()) {
                toSide(sight.get(sight.size() - 1), true);
            } else {
                for (Cluster k : sight) {
                    if (left(k) <= x && x < right(k)) {
                        pickIn(k, x);
                        break;
                    }
                }
            }
            return stand;
        }

        private void pickIn(Cluster k, int x) {
            int toLeft = x - left(k);
            int toRight = right(k) - x;
            int toMiddle = k.joined ? Math.abs(left(k) + 8 - x) : 1000;
            if (toRight <= toLeft && (toRight < toMiddle || toRight == toMiddle)) {
                toSide(k, true);
            } else if (toMiddle <= toLeft) {
                place(k.first + 2, 0);
            } else {
                toSide(k, false);
            }
        }

        int select(int a, int b) {
            if (!between(a) || !between(b)) {
                return -1;
            }
            int from = Math.min(a, b);
            int to = Math.max(a, b);
            StringBuilder seen = new StringBuilder();
            for (Cluster k : sight()) {
                seen.append((k.first >= from && k.end <= to ? "#" : ".").repeat(k.width));
            }
            Matcher m = Pattern.compile("#+").matcher(seen);
            pieces = "";
            int number = 0;
            while (m.find()) {
                pieces += m.start() + "-" + m.end() + " ";
                number++;
            }
            return number;
        }

        int back() {
            if (stand == 0) {
                return 0;
            }
            if (isMark(line.charAt(stand - 1))) {
                return strike(stand - 1, stand, 1);
            }
            Cluster k = within(stand) != null ? within(stand) : aheadOf(stand);
            return strike(k.first, k.end, 1);
        }

        int ahead() {
            Cluster k = within(stand) != null ? within(stand) : behind(stand);
            return k == null ? 0 : strike(k.first, k.end, 0);
        }

        boolean type(int sign) {
            if (!isSign(sign) || line.length() == 60) {
                return false;
            }
            changed(line.substring(0, stand) + (char) sign + line.substring(stand), stand + 1, 0);
            return true;
        }

        int cut(int a, int b) {
            List<Integer> stands = stands();
            if (!stands.contains(a) || !stands.contains(b)) {
                return -1;
            }
            return strike(Math.min(a, b), Math.max(a, b), 0);
        }

        int undo() {
            if (kept.isEmpty()) {
                return -1;
            }
            Kept last = kept.remove(kept.size() - 1);
            line = last.line;
            stand = last.stand;
            side = last.side;
            return kept.size();
        }

        String state() {
            StringBuilder s = new StringBuilder();
            List<Cluster> clusters = clusters();
            List<Cluster> sight = sight();
            int[] levels = levels();
            int highest = line.isEmpty() ? way : 0;
            for (int level : levels) {
                highest = Math.max(highest, level);
            }
            long rows = rows().stream().filter(r -> !r.signs.isEmpty()).count();
            s.append(line.length()).append(' ').append(clusters.size()).append(' ').append(stands().size()).append(' ');
            s.append(total()).append(' ').append(rows).append(' ').append(highest).append(' ');
            s.append(stand).append(' ').append(side).append(' ').append(x()).append(' ');
            s.append("signs ");
            for (int i = 0; i < line.length(); i++) {
                s.append(line.charAt(i)).append(levels[i]).append(' ');
            }
            s.append("clusters ");
            for (int i = 0; i < clusters.size(); i++) {
                Cluster k = clusters.get(i);
                s.append(k.first).append(' ').append(k.end - k.first).append(' ').append(k.level).append(' ');
                s.append(left(k)).append(' ').append(k.width).append(' ').append(k.joined ? 1 : 0).append(' ');
                s.append(sight.indexOf(k)).append(' ').append(seen(sight.get(i))).append(' ');
            }
            return s.append("pieces ").append(pieces).toString();
        }

        private char seen(Cluster k) {
            char sign = line.charAt(k.first);
            int mate = "()<>".indexOf(sign);
            return k.level % 2 == 0 || mate < 0 ? sign : ")(><".charAt(mate);
        }

        @Override
        public String toString() {
            return "\"" + line + "\"" + (way == 0 ? "" : " backward") + " " + stand + "/" + side;
        }
    }
}
