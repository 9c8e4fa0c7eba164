import java.util.ArrayDeque;
import java.util.ArrayList;
import java.util.Deque;
import java.util.List;
import java.util.Map;
import java.util.TreeMap;
import java.util.TreeSet;

/**
 * Long runs of calls, each answer against a plain model that is written from the document alone:
 * texts as lists of places, sets of documents, faults by a table of what each lexeme may be.
 */
public final class ModelTest {
    private static final int NONE = -1;
    private static final int FULL = -2;
    private static final int THROWS = -987654321;

    private static int wrong = 0;
    private static long seed = 1;
    private static final List<String> history = new ArrayList<>();

    public static void main(String[] args) {
        int runs = args.length > 0 ? Integer.parseInt(args[0]) : 240;
        int first = args.length > 1 ? Integer.parseInt(args[1]) : 0;
        for (int run = first; run < first + runs && wrong < 5; run++) {
            seed = 7919L * run + 17;
            history.clear();
            new Run(run).go();
        }
        System.out.println(wrong == 0 ? "all answers are those of the model" : wrong + " answers are not those of the model");
        if (wrong != 0) {
            System.exit(1);
        }
    }

    private static int chance(int below) {
        seed = seed * 6364136223846793005L + 1442695040888963407L;
        return (int) ((seed >>> 33) % below);
    }

    private static String pick(String... of) {
        return of[chance(of.length)];
    }

    private static void due(int run, String call, int got, int want) {
        history.add(call + " -> " + want);
        if (got != want) {
            wrong++;
            System.out.println("run " + run + ": " + call + " answered " + got + ", the model " + want);
            for (int i = Math.max(0, history.size() - 12); i < history.size(); i++) {
                System.out.println("    " + history.get(i));
            }
        }
    }

    // ---- one run

    private static final class Run {
        private final int number;
        private final int sort;
        private final GammaShelf x = new GammaShelf();
        private final Model m = new Model();

        Run(int number) {
            this.number = number;
            this.sort = number % 6;
        }

        void go() {
            int calls = sort == 5 ? 60 : 120;
            for (int i = 0; i < calls && wrong < 5; i++) {
                one();
            }
            all();
        }

        private void check(String call, int got, int want) {
            due(number, call, got, want);
        }

        private void tape(String text) {
            if (chance(8) != 0) {
                check("end(0)", x.end(0), m.end(0));
            }
            int before = m.tape.length();
            for (int i = 0; i < text.length(); i += 20) {
                int[] v = new int[5];
                for (int j = 0; j < 20; j++) {
                    v[j / 4] = v[j / 4] << 8 | (i + j < text.length() ? text.charAt(i + j) & 255 : 0);
                }
                check("feed", x.feed(v[0], v[1], v[2], v[3], v[4]), m.feed(v));
            }
            int length = Math.min(600, before + text.length());
            check("end(" + length + ")", x.end(length), m.end(length));
            history.add("tape: " + m.tape.replace("\n", "\\n"));
        }

        private void one() {
            int d = chance(m.docs.size() + 2) - (chance(20) == 0 ? 1 : 0);
            switch (chance(sort == 5 ? 10 : 22)) {
                case 0: case 1: case 2: case 3: case 4: case 5: case 6:
                    tape(text());
                    check("enter()", x.enter(), m.enter());
                    break;
                case 7:
                    if (chance(2) == 0) {
                        check("remove(" + d + ")", x.remove(d) ? 1 : 0, m.remove(d) ? 1 : 0);
                    }
                    break;
                case 8: {
                    int mark = chance(9) - 4;
                    check("mark(" + d + ", " + mark + ")", x.mark(d, mark) ? 1 : 0, m.mark(d, mark) ? 1 : 0);
                    break;
                }
                case 9:
                    if (chance(3) == 0) {
                        check("tidy()", x.tidy(), m.tidy());
                    }
                    counts();
                    break;
                case 10: {
                    boolean on = chance(5) < 3;
                    tape(chance(9) == 0 ? "?" : token());
                    check("stop(" + on + ")", x.stop(on), m.stop(on));
                    break;
                }
                case 11: case 12:
                    tape(chance(9) == 0 ? " ;" : "- " + token() + " x");
                    check("look()", x.look(), m.look());
                    looked();
                    break;
                case 13: case 14:
                    tape(chance(9) == 0 ? "\n" : wrongToken());
                    check("nearest()", x.nearest(), m.nearest());
                    looked();
                    break;
                case 15:
                    check("like(" + d + ")", like(d), m.like(d));
                    break;
                default:
                    tape(chance(6) == 0 ? big() : chance(3) == 0 ? spoilt(query(0)) : query(0));
                    check("search()", x.search(), m.search());
                    found();
                    break;
            }
        }

        private int like(int d) {
            try {
                return x.like(d);
            } catch (IndexOutOfBoundsException e) {
                return THROWS;
            }
        }

        private void counts() {
            for (int what = -1; what <= 7; what++) {
                check("count(" + what + ")", x.count(what), m.count(what));
            }
        }

        private void looked() {
            for (int what = -1; what <= 5; what++) {
                check("posting(" + what + ")", x.posting(what), m.posting(what));
            }
            String bits = m.bits(m.looked == null ? "" : m.looked);
            for (int i = -1; i <= bits.length(); i++) {
                int got;
                try {
                    got = x.bit(i);
                } catch (IndexOutOfBoundsException e) {
                    got = THROWS;
                }
                check("bit(" + i + ")", got, i < 0 || i >= bits.length() ? THROWS : bits.charAt(i) - '0');
            }
        }

        private void found() {
            for (int i = 0; i <= m.hits.size(); i++) {
                check("hit(" + i + ")", x.hit(i), i < m.hits.size() ? m.hits.get(i) : NONE);
                for (int what = -1; what <= 3; what++) {
                    int got;
                    try {
                        got = x.rank(i, what);
                    } catch (IndexOutOfBoundsException e) {
                        got = THROWS;
                    }
                    check("rank(" + i + ", " + what + ")", got, m.rank(i, what));
                }
            }
            for (int i = 0; i <= m.code.size(); i++) {
                check("code(" + i + ")", x.code(i), i < m.code.size() ? m.code.get(i) : NONE);
            }
            check("deepest()", x.deepest(), m.deepest());
        }

        private void all() {
            counts();
            int k = 0;
            for (String word : m.postings.keySet()) {
                for (int i = 0; i <= 12; i++) {
                    check("letter(" + k + ", " + i + ")", x.letter(k, i), i < word.length() ? word.charAt(i) : 0);
                }
                k++;
            }
            for (int d = 0; d < m.docs.size(); d++) {
                for (int what = -1; what <= 4; what++) {
                    check("document(" + d + ", " + what + ")", x.document(d, what), m.document(d, what));
                }
                check("like(" + d + ")", like(d), m.like(d));
            }
        }

        // ---- texts and queries

        private String token() {
            String stem;
            switch (sort) {
                case 0:
                    stem = pick("a", "b", "c", "d");
                    break;
                case 1: case 2:
                    stem = pick("cat", "cab", "cart", "dog", "run", "bus", "pass", "city", "stud", "bod", "abcdefghijk", "w1", "need");
                    break;
                case 3:
                    stem = pick("or", "and", "not", "near", "title", "body", "x", "y", "5", "12");
                    break;
                case 4:
                    stem = "" + (char) ('a' + chance(5)) + (char) ('a' + chance(5)) + (chance(2) == 0 ? "" : "" + chance(3));
                    break;
                default:
                    stem = "" + (char) ('a' + chance(7)) + (char) ('a' + chance(10)) + (char) ('a' + chance(7));
                    break;
            }
            String whole = stem + (sort == 0 || sort > 3 || chance(3) > 0 ? "" : pick("s", "ing", "ed", "ies", "ss", "is", "us", "sing", "edies", "3s"));
            if (chance(5) == 0) {
                return whole.toUpperCase();
            }
            return whole;
        }

        private String wrongToken() {
            StringBuilder token = new StringBuilder(token());
            for (int i = chance(4); i > 0; i--) {
                int at = chance(token.length() + 1);
                if (chance(2) == 0) {
                    token.insert(at, (char) ('a' + chance(6)));
                } else if (at < token.length()) {
                    token.setCharAt(at, (char) ('a' + chance(6)));
                }
            }
            return token.toString();
        }

        private String text() {
            StringBuilder text = new StringBuilder();
            int most = sort == 5 ? 150 : chance(4) == 0 ? 60 : 14;
            int tokens = sort == 5 ? 100 + chance(50) : chance(most);
            for (int i = 0; i < tokens; i++) {
                text.append(token()).append(chance(sort == 5 ? 40 : 6) == 0 ? "\n" : pick(" ", " ", ", ", " (", "\t"));
            }
            return text.length() > 600 ? text.substring(0, 600) : text.toString();
        }

        private String blank() {
            return pick("", "", " ", "\n", "  ");
        }

        private String leaf() {
            switch (chance(9)) {
                case 0: case 1: {
                    StringBuilder phrase = new StringBuilder("\"");
                    for (int i = chance(4); i >= 0; i--) {
                        phrase.append(token()).append(pick(" ", " ", "-", "?"));
                    }
                    return phrase.append("\"").toString();
                }
                case 2: {
                    String token = token();
                    return token.substring(0, 1 + chance(token.length())) + blank() + "*";
                }
                default:
                    return token();
            }
        }

        private String unit(int depth) {
            int sort = chance(12);
            if (sort < 2 && depth < 5) {
                return "(" + blank() + query(depth + 1) + blank() + ")";
            }
            if (sort == 2) {
                int low = chance(9) - 4;
                return "[" + blank() + low + blank() + ".." + blank() + (low + chance(5)) + blank() + "]";
            }
            return placed();
        }

        private String placed() {
            String sides = "";
            for (int i = chance(5) == 0 ? 1 + chance(2) : 0; i > 0; i--) {
                sides += pick("title", "body", "Title", "BODY") + blank() + ":" + blank();
            }
            return sides + leaf();
        }

        private String near(int depth) {
            if (chance(5) == 0) {
                String units = placed() + " near " + (chance(5) == 0 ? chance(200) + 1 : 1 + chance(4)) + " " + placed();
                return chance(12) == 0 ? unit(depth) + " NEAR 3 " + unit(depth) : units;
            }
            return unit(depth);
        }

        private String query(int depth) {
            StringBuilder query = new StringBuilder();
            for (int i = chance(depth == 0 ? 5 : 3); i >= 0; i--) {
                for (int nots = chance(4) == 0 ? 1 + chance(3) : 0; nots > 0; nots--) {
                    query.append("not ");
                }
                query.append(near(depth));
                if (i > 0) {
                    query.append(pick(" ", " and ", " or ", "\nOR ", " "));
                }
            }
            return query.length() > 600 ? query.substring(0, 600) : query.toString();
        }

        private String spoilt(String query) {
            StringBuilder spoilt = new StringBuilder(query);
            for (int i = chance(3); i >= 0; i--) {
                int at = chance(spoilt.length() + 1);
                String put = pick("(", ")", "[", "]", "\"", "*", "-", ".", "..", ":", " near ", " near 0 ", " 201 ", " or ", " not ",
                        " title:", " body ", " and ", "1", " ", "\0", "[3..1]", "[1..2]", "(a) near 2 b", "\u00ff", "[-5..-6", "1234567890");
                switch (chance(4)) {
                    case 0:
                        spoilt.setLength(at);
                        break;
                    case 1:
                        if (at < spoilt.length()) {
                            spoilt.deleteCharAt(at);
                        }
                        break;
                    default:
                        spoilt.insert(at, put);
                        break;
                }
            }
            return spoilt.length() > 600 ? spoilt.substring(0, 600) : spoilt.toString();
        }

        /** Queries about the limits of room. */
        private String big() {
            StringBuilder big = new StringBuilder();
            switch (chance(6)) {
                case 0:
                    for (int i = 36 + chance(7); i > 0; i--) {
                        big.append(pick("a ", "a* ", "\"a b\"", "[1..2]", "title:a ", "not a ", "(a) near 2 b "));
                        if (big.length() > 580) {
                            break;
                        }
                    }
                    break;
                case 1:
                    for (int i = 10 + chance(5); i > 0; i--) {
                        big.append("not ".repeat(chance(2))).append("(");
                    }
                    big.append(token()).append(")".repeat(10 + chance(5)));
                    break;
                case 2:
                    big.append("not ".repeat(38 + chance(5))).append(token());
                    break;
                case 3:
                    for (int i = 10 + chance(5); i > 0; i--) {
                        big.append(pick("title:", "body:", "title :"));
                    }
                    big.append(leaf());
                    break;
                case 4:
                    for (int i = 3; i > 0; i--) {
                        big.append("\"").append(pick("a ", "b-").repeat(50 + chance(6))).append("\" ");
                    }
                    break;
                default:
                    for (int i = 20 + chance(10); i > 0 && big.length() < 560; i--) {
                        big.append(near(5)).append(pick(" or ", " ", " and "));
                    }
                    big.append(token());
                    break;
            }
            String spoilt = chance(3) == 0 ? spoilt(big.toString()) : big.toString();
            return spoilt.length() > 600 ? spoilt.substring(0, 600) : spoilt;
        }
    }

    // ---- the model

    private static final class Doc {
        final TreeMap<Integer, String> kept = new TreeMap<>();
        boolean on = true;
        int mark = 0;
    }

    private static final class Model {
        String tape = "";
        final List<Doc> docs = new ArrayList<>();
        final TreeSet<String> stops = new TreeSet<>();
        TreeMap<String, TreeMap<Integer, List<Integer>>> postings = new TreeMap<>();
        String looked = null;
        final List<Integer> hits = new ArrayList<>();
        final List<int[]> ranks = new ArrayList<>();
        final List<Integer> code = new ArrayList<>();

        int feed(int[] v) {
            if (tape.length() + 20 > 600) {
                return FULL;
            }
            for (int i = 0; i < 20; i++) {
                tape += (char) (v[i / 4] >> 24 - 8 * (i % 4) & 255);
            }
            return tape.length();
        }

        int end(int n) {
            if (n < 0 || n > tape.length()) {
                return NONE;
            }
            tape = tape.substring(0, n);
            return n;
        }

        static boolean alnum(char c) {
            return c >= '0' && c <= '9' || c >= 'a' && c <= 'z' || c >= 'A' && c <= 'Z';
        }

        static String start(String token) {
            StringBuilder small = new StringBuilder();
            for (char c : token.substring(0, Math.min(12, token.length())).toCharArray()) {
                small.append(c >= 'A' && c <= 'Z' ? (char) (c + 32) : c);
            }
            return small.toString();
        }

        static String word(String token) {
            String w = start(token);
            if (w.matches(".*[0-9].*")) {
                return w;
            }
            if (w.matches(".{2,}ies")) {
                return w.substring(0, w.length() - 3) + "y";
            }
            if (w.matches(".{3,}ing")) {
                return w.substring(0, w.length() - 3);
            }
            if (w.matches(".{3,}ed")) {
                return w.substring(0, w.length() - 2);
            }
            if (w.matches(".{2,}[^sui]s")) {
                return w.substring(0, w.length() - 1);
            }
            return w;
        }

        static List<String> tokens(String text) {
            List<String> tokens = new ArrayList<>();
            for (String part : text.split("[^A-Za-z0-9]+")) {
                if (!part.isEmpty()) {
                    tokens.add(part);
                }
            }
            return tokens;
        }

        String firstWord() {
            List<String> tokens = tokens(tape);
            tape = "";
            return tokens.isEmpty() ? "" : word(tokens.get(0));
        }

        static void gamma(StringBuilder bits, int n) {
            String digits = Integer.toBinaryString(n);
            bits.append("0".repeat(digits.length() - 1)).append(digits);
        }

        String bits(String word) {
            StringBuilder bits = new StringBuilder();
            int ahead = -1;
            for (Map.Entry<Integer, List<Integer>> e : postings.getOrDefault(word, new TreeMap<>()).entrySet()) {
                gamma(bits, e.getKey() - ahead);
                ahead = e.getKey();
                gamma(bits, e.getValue().size());
                int last = -1;
                for (int place : e.getValue()) {
                    gamma(bits, place - last);
                    last = place;
                }
            }
            return bits.toString();
        }

        /** CHUNKS and what they take. */
        int[] chunks(String word) {
            int left = bits(word).length();
            int chunks = 0;
            int taken = 0;
            for (int size = 32; left > 0; size = Math.min(256, size * 2)) {
                left -= size;
                chunks++;
                taken += size + 16;
            }
            return new int[] {chunks, taken};
        }

        int taken() {
            int taken = 0;
            for (String word : postings.keySet()) {
                taken += chunks(word)[1];
            }
            return taken;
        }

        int enter() {
            String text = tape;
            tape = "";
            if (docs.size() >= 120) {
                return FULL;
            }
            Doc doc = new Doc();
            int cut = text.indexOf('\n');
            place(doc, cut < 0 ? text : text.substring(0, cut), 0);
            place(doc, cut < 0 ? "" : text.substring(cut + 1), 512);
            docs.add(doc);
            TreeMap<String, TreeMap<Integer, List<Integer>>> before = postings;
            postings = made(true);
            if (postings.size() > 400 || taken() > 40000) {
                docs.remove(docs.size() - 1);
                postings = before;
                return FULL;
            }
            return docs.size() - 1;
        }

        void place(Doc doc, String text, int from) {
            int place = from;
            for (String token : tokens(text)) {
                if (!stops.contains(word(token))) {
                    doc.kept.put(place, word(token));
                }
                place++;
            }
        }

        /** Postings as they would be; removed documents that were tidied away stay away. */
        TreeMap<String, TreeMap<Integer, List<Integer>>> made(boolean withRemoved) {
            TreeMap<String, TreeMap<Integer, List<Integer>>> made = new TreeMap<>();
            for (int d = 0; d < docs.size(); d++) {
                if (docs.get(d).on || withRemoved && !tidied.contains(d)) {
                    for (Map.Entry<Integer, String> e : docs.get(d).kept.entrySet()) {
                        made.computeIfAbsent(e.getValue(), k -> new TreeMap<>()).computeIfAbsent(d, k -> new ArrayList<>()).add(e.getKey());
                    }
                }
            }
            return made;
        }

        final TreeSet<Integer> tidied = new TreeSet<>();

        boolean isOn(int d) {
            return d >= 0 && d < docs.size() && docs.get(d).on;
        }

        boolean remove(int d) {
            boolean was = isOn(d);
            if (was) {
                docs.get(d).on = false;
            }
            return was;
        }

        boolean mark(int d, int mark) {
            if (isOn(d)) {
                docs.get(d).mark = mark;
            }
            return isOn(d);
        }

        int tidy() {
            int before = taken();
            postings = made(false);
            for (int d = 0; d < docs.size(); d++) {
                if (!docs.get(d).on) {
                    tidied.add(d);
                }
            }
            return before - taken();
        }

        int stop(boolean on) {
            String word = firstWord();
            if (word.isEmpty()) {
                return NONE;
            }
            if (on && !stops.contains(word) && stops.size() == 10) {
                return FULL;
            }
            if (on) {
                stops.add(word);
            } else {
                stops.remove(word);
            }
            return stops.size();
        }

        int document(int d, int what) {
            Doc doc = docs.get(d);
            int[] of = {doc.on ? 1 : 0, doc.kept.size(), doc.mark, new TreeSet<>(doc.kept.values()).size()};
            return what < 0 || what > 3 ? NONE : of[what];
        }

        int look() {
            looked = firstWord();
            return postings.getOrDefault(looked, new TreeMap<>()).size();
        }

        int keepers(String word) {
            int keepers = 0;
            for (int d : postings.get(word).keySet()) {
                keepers += isOn(d) ? 1 : 0;
            }
            return keepers;
        }

        int posting(int what) {
            if (what < 0 || what > 4 || looked == null) {
                return NONE;
            }
            if (!postings.containsKey(looked)) {
                return 0;
            }
            int places = 0;
            for (Map.Entry<Integer, List<Integer>> e : postings.get(looked).entrySet()) {
                places += isOn(e.getKey()) ? e.getValue().size() : 0;
            }
            int[] of = {bits(looked).length(), chunks(looked)[0], keepers(looked), places, postings.headMap(looked).size()};
            return of[what];
        }

        int on() {
            int on = 0;
            for (Doc doc : docs) {
                on += doc.on ? 1 : 0;
            }
            return on;
        }

        int count(int what) {
            int bits = 0;
            for (String word : postings.keySet()) {
                bits += bits(word).length();
            }
            int[] of = {docs.size(), on(), postings.size(), taken(), bits, stops.size(), tape.length()};
            return what < 0 || what > 6 ? NONE : of[what];
        }

        static int apart(String a, String b) {
            int[][] cost = new int[a.length() + 1][b.length() + 1];
            for (int i = 0; i <= a.length(); i++) {
                for (int j = 0; j <= b.length(); j++) {
                    if (i == 0 || j == 0) {
                        cost[i][j] = i + j;
                    } else {
                        int other = cost[i - 1][j - 1] + (a.charAt(i - 1) == b.charAt(j - 1) ? 0 : 1);
                        cost[i][j] = Math.min(other, 1 + Math.min(cost[i - 1][j], cost[i][j - 1]));
                    }
                }
            }
            return cost[a.length()][b.length()];
        }

        int nearest() {
            String told = firstWord();
            String best = null;
            for (String word : postings.keySet()) {
                if (best == null || apart(told, word) < apart(told, best)
                        || apart(told, word) == apart(told, best) && keepers(word) > keepers(best)) {
                    best = word;
                }
            }
            if (told.isEmpty() || best == null || apart(told, best) > 2) {
                return NONE;
            }
            looked = best;
            return apart(told, best);
        }

        static int digits(int x) {
            return Integer.toBinaryString(x).length();
        }

        int like(int d) {
            if (!isOn(d)) {
                return THROWS;
            }
            int best = NONE;
            int bestSum = 0;
            for (int o = 0; o < docs.size(); o++) {
                int sum = 0;
                for (Map.Entry<String, TreeMap<Integer, List<Integer>>> e : postings.entrySet()) {
                    if (o != d && isOn(o) && e.getValue().containsKey(d) && e.getValue().containsKey(o)) {
                        sum += Math.min(e.getValue().get(d).size(), e.getValue().get(o).size()) * digits(16 * on() / keepers(e.getKey()));
                    }
                }
                if (sum > bestSum) {
                    best = o;
                    bestSum = sum;
                }
            }
            return best;
        }

        int search() {
            hits.clear();
            ranks.clear();
            code.clear();
            String text = tape;
            tape = "";
            int fault = new Faults(text).first();
            if (fault != 0) {
                return -fault;
            }
            Tree tree = new Grower(text).query();
            List<Tree> leaves = new ArrayList<>();
            tree.number(leaves);
            tree.emit(code);
            for (int d = 0; d < docs.size(); d++) {
                if (isOn(d) && tree.matches(this, d)) {
                    hits.add(d);
                    ranks.add(new int[] {d, score(tree, leaves, d), shown(tree, leaves, d)});
                }
            }
            ranks.sort((a, b) -> a[1] != b[1] ? b[1] - a[1] : a[0] - b[0]);
            return hits.size();
        }

        int score(Tree tree, List<Tree> leaves, int d) {
            int score = 0;
            for (Tree leaf : leaves) {
                int matching = 0;
                for (int o = 0; o < docs.size(); o++) {
                    matching += isOn(o) && !leaf.left(this, o).isEmpty() ? 1 : 0;
                }
                int f = 0;
                for (int place : leaf.left(this, d)) {
                    f += place < 512 ? 3 : 1;
                }
                if (leaf.counts() && f > 0) {
                    score += 100 * f / (f + 1 + docs.get(d).kept.size() / 8) * digits(16 * on() / matching);
                }
            }
            return score;
        }

        int shown(Tree tree, List<Tree> leaves, int d) {
            TreeSet<Integer> places = new TreeSet<>();
            for (Tree leaf : leaves) {
                if (leaf.counts()) {
                    places.addAll(leaf.left(this, d));
                }
            }
            int best = NONE;
            for (int p : places) {
                if (best == NONE || places.subSet(p, p + 10).size() > places.subSet(best, best + 10).size()) {
                    best = p;
                }
            }
            return best;
        }

        int rank(int i, int what) {
            if (i < 0 || i >= ranks.size()) {
                return THROWS;
            }
            return what < 0 || what > 2 ? NONE : ranks.get(i)[what];
        }

        int deepest() {
            int depth = 0;
            int deepest = 0;
            for (int step : code) {
                int what = step / 1000;
                depth += what <= 4 ? 1 : what == 5 || what == 8 || what == 9 || what == 11 ? -1 : 0;
                deepest = Math.max(deepest, depth);
            }
            return deepest;
        }
    }

    // ---- the query as a tree

    private static final class Tree {
        final int what;
        int which = 0;
        String text = "";
        int low;
        int high;
        Tree a;
        Tree b;
        Tree over;
        private final List<String> words = new ArrayList<>();
        private final Map<Integer, TreeSet<Integer>> known = new TreeMap<>();

        Tree(int what, Tree a, Tree b) {
            this.what = what;
            this.a = a;
            this.b = b;
            if (a != null) {
                a.over = this;
            }
            if (b != null) {
                b.over = this;
            }
        }

        void number(List<Tree> leaves) {
            if (a == null) {
                which = leaves.size();
                leaves.add(this);
                return;
            }
            a.number(leaves);
            if (b != null) {
                b.number(leaves);
            }
        }

        void emit(List<Integer> code) {
            if (a != null) {
                a.emit(code);
            }
            if (b != null) {
                b.emit(code);
            }
            code.add(1000 * what + which);
        }

        boolean counts() {
            if (what == 4) {
                return false;
            }
            for (Tree t = this; t.over != null; t = t.over) {
                if (t.over.what == 10 || t.over.what == 11 && t.over.b == t) {
                    return false;
                }
            }
            return true;
        }

        /** The places that are left by all title and body around a leaf. */
        TreeSet<Integer> left(Model m, int d) {
            if (what == 4) {
                return new TreeSet<>();
            }
            Tree t = this;
            while (t.over != null && (t.over.what == 6 || t.over.what == 7)) {
                t = t.over;
            }
            return t.places(m, d);
        }

        TreeSet<Integer> places(Model m, int d) {
            return known.computeIfAbsent(d, k -> findPlaces(m, d));
        }

        private TreeSet<Integer> findPlaces(Model m, int d) {
            TreeSet<Integer> places = new TreeSet<>();
            TreeMap<Integer, String> kept = m.docs.get(d).kept;
            if (what == 6) {
                return new TreeSet<>(a.places(m, d).headSet(512));
            }
            if (what == 7) {
                return new TreeSet<>(a.places(m, d).tailSet(512));
            }
            if (what == 3) {
                for (int p = 0; p < 1200; p++) {
                    if (phraseAt(m, kept, p)) {
                        places.add(p);
                    }
                }
                return places;
            }
            String word = Model.word(text);
            String start = Model.start(text);
            for (Map.Entry<Integer, String> e : kept.entrySet()) {
                if (what == 1 && e.getValue().equals(word) && !m.stops.contains(word)
                        || what == 2 && e.getValue().startsWith(start)) {
                    places.add(e.getKey());
                }
            }
            return places;
        }

        private boolean phraseAt(Model m, TreeMap<Integer, String> kept, int p) {
            if (words.isEmpty()) {
                for (String token : Model.tokens(text)) {
                    words.add(Model.word(token));
                }
            }
            boolean some = false;
            int at = p;
            for (String word : words) {
                if (!m.stops.contains(word)) {
                    if (!word.equals(kept.get(at)) || at >= 512 != p >= 512) {
                        return false;
                    }
                    some = true;
                }
                at++;
            }
            return some;
        }

        boolean matches(Model m, int d) {
            switch (what) {
                case 4:
                    return m.docs.get(d).mark >= low && m.docs.get(d).mark <= high;
                case 5:
                    for (int p : a.places(m, d)) {
                        for (int q : b.places(m, d)) {
                            if (p >= 512 == q >= 512 && Math.abs(p - q) <= which) {
                                return true;
                            }
                        }
                    }
                    return false;
                case 8:
                    return a.matches(m, d) && b.matches(m, d);
                case 9:
                    return a.matches(m, d) || b.matches(m, d);
                case 10:
                    return !a.matches(m, d);
                case 11:
                    return a.matches(m, d) && !b.matches(m, d);
                default:
                    return !places(m, d).isEmpty();
            }
        }
    }

    /** Makes the tree of a query that has no fault. */
    private static final class Grower {
        private final List<String> parts = new ArrayList<>();
        private int at = 0;

        Grower(String text) {
            java.util.regex.Matcher parts = java.util.regex.Pattern.compile("[A-Za-z0-9]+|\"[^\"]*\"|\\.\\.|[^ \n]").matcher(text);
            while (parts.find()) {
                this.parts.add(parts.group());
            }
        }

        private String peek(int ahead) {
            return at + ahead < parts.size() ? parts.get(at + ahead).toLowerCase() : "";
        }

        private boolean take(String part) {
            if (peek(0).equals(part)) {
                at++;
                return true;
            }
            return false;
        }

        Tree query() {
            Tree whole = all();
            while (take("or")) {
                whole = new Tree(9, whole, all());
            }
            return whole;
        }

        private Tree all() {
            boolean not = nots();
            Tree whole = not ? new Tree(10, near(), null) : near();
            while (!peek(0).isEmpty() && !peek(0).equals("or") && !peek(0).equals(")")) {
                take("and");
                not = nots();
                whole = new Tree(not ? 11 : 8, whole, near());
            }
            return whole;
        }

        private boolean nots() {
            boolean not = false;
            while (take("not")) {
                not = !not;
            }
            return not;
        }

        private Tree near() {
            Tree first = unit();
            if (!take("near")) {
                return first;
            }
            int n = Integer.parseInt(parts.get(at++));
            Tree near = new Tree(5, first, unit());
            near.which = n;
            return near;
        }

        private Tree unit() {
            if (peek(1).equals(":")) {
                int what = peek(0).equals("title") ? 6 : 7;
                at += 2;
                return new Tree(what, unit(), null);
            }
            if (take("(")) {
                Tree inside = query();
                at++;
                return inside;
            }
            if (take("[")) {
                Tree marks = new Tree(4, null, null);
                marks.low = number();
                at++;
                marks.high = number();
                at++;
                return marks;
            }
            String part = parts.get(at++);
            Tree leaf = new Tree(part.startsWith("\"") ? 3 : take("*") ? 2 : 1, null, null);
            leaf.text = part;
            return leaf;
        }

        private int number() {
            boolean minus = take("-");
            int value = Integer.parseInt(parts.get(at++));
            return minus ? -value : value;
        }
    }

    /** Finds the first fault: for each lexeme what is wrong at it, the least number of several. */
    private static final class Faults {
        /** What may come next. */
        private enum Wants { NOTS, UNIT, STAR, JOINT, APART, LOW, DOTS, HIGH, SQUARE }

        /** What is known of the parts that stand open in one pair of ( ). */
        private static final class Level {
            final List<Integer> sides = new ArrayList<>();
            int near = NONE;
            boolean firstHasPlaces;
            boolean nearDone;
        }

        private final String text;
        private final Deque<Level> levels = new ArrayDeque<>();
        private Wants wants = Wants.NOTS;
        private int nots = 0;
        private int leaves = 0;
        private int quoted = 0;
        private int low = 0;
        private int least = 9;
        private int leastAt = 0;

        Faults(String text) {
            this.text = text;
            levels.push(new Level());
        }

        private void wrong(int number, int place) {
            if (number < least) {
                least = number;
                leastAt = place;
            }
        }

        int first() {
            int at = 0;
            while (least == 9) {
                while (at < text.length() && (text.charAt(at) == ' ' || text.charAt(at) == '\n')) {
                    at++;
                }
                if (at >= text.length()) {
                    atEnd();
                    break;
                }
                at = lexeme(at);
            }
            return least == 9 ? 0 : 1000 * least + leastAt + 1;
        }

        private void atEnd() {
            if (wants == Wants.STAR) {
                whole(true);
            }
            if (wants != Wants.JOINT || levels.size() > 1) {
                wrong(1, text.length());
            }
        }

        private int runEnd(int at) {
            int end = at;
            while (end < text.length() && Model.alnum(text.charAt(end))) {
                end++;
            }
            return end;
        }

        private int lexeme(int at) {
            if (wants == Wants.STAR) {
                if (text.charAt(at) == '*') {
                    whole(true);
                    return at + 1;
                }
                whole(true);
            }
            switch (wants) {
                case APART:
                    return apart(at);
                case LOW: case HIGH:
                    return marks(at);
                case DOTS:
                    if (!text.startsWith("..", at)) {
                        wrong(1, at);
                    }
                    wants = Wants.HIGH;
                    return at + 2;
                case SQUARE:
                    if (text.charAt(at) != ']') {
                        wrong(1, at);
                    }
                    whole(false);
                    return at + 1;
                default:
                    return Model.alnum(text.charAt(at)) ? run(at) : sign(at);
            }
        }

        /** The unit that stood open is whole. */
        private void whole(boolean hasPlaces) {
            Level level = levels.peek();
            if (!level.sides.isEmpty() && !hasPlaces) {
                wrong(4, level.sides.get(level.sides.size() - 1));
            }
            level.sides.clear();
            if (level.near == NONE) {
                level.firstHasPlaces = hasPlaces;
            } else {
                if (!hasPlaces || !level.firstHasPlaces) {
                    wrong(4, level.near);
                }
                level.nearDone = true;
            }
            wants = Wants.JOINT;
        }

        /** A lexeme that begins a unit, or nots: the places of a near are done with. */
        private boolean begins(int at) {
            if (wants == Wants.JOINT) {
                fresh();
            }
            return true;
        }

        private void fresh() {
            Level level = levels.peek();
            level.near = NONE;
            level.nearDone = false;
            nots = 0;
            wants = Wants.NOTS;
        }

        private void leaf(int at) {
            leaves++;
            if (leaves > 40) {
                wrong(3, at);
            }
        }

        private int run(int at) {
            int end = runEnd(at);
            String word = text.substring(at, end).toLowerCase();
            int behind = end;
            while (behind < text.length() && (text.charAt(behind) == ' ' || text.charAt(behind) == '\n')) {
                behind++;
            }
            boolean colon = behind < text.length() && text.charAt(behind) == ':';
            if (word.equals("or") || word.equals("and")) {
                if (wants != Wants.JOINT) {
                    wrong(1, at);
                }
                fresh();
                return end;
            }
            if (word.equals("near")) {
                if (wants != Wants.JOINT || levels.peek().nearDone) {
                    wrong(1, at);
                }
                levels.peek().near = at;
                wants = Wants.APART;
                return end;
            }
            if (word.equals("not")) {
                if (wants == Wants.UNIT) {
                    wrong(1, at);
                }
                begins(at);
                nots++;
                if (nots > 40) {
                    wrong(3, at);
                }
                return end;
            }
            begins(at);
            if ((word.equals("title") || word.equals("body")) && colon) {
                levels.peek().sides.add(at);
                if (levels.peek().sides.size() > 12) {
                    wrong(3, at);
                }
                wants = Wants.UNIT;
                return behind + 1;
            }
            leaf(at);
            wants = Wants.STAR;
            return end;
        }

        private int sign(int at) {
            char c = text.charAt(at);
            if (c == '(') {
                begins(at);
                if (levels.size() > 12) {
                    wrong(3, at);
                }
                levels.push(new Level());
                fresh();
                return at + 1;
            }
            if (c == ')' && wants == Wants.JOINT && levels.size() > 1) {
                levels.pop();
                whole(false);
                return at + 1;
            }
            if (c == '[') {
                begins(at);
                leaf(at);
                wants = Wants.LOW;
                return at + 1;
            }
            if (c == '"') {
                begins(at);
                leaf(at);
                return phrase(at + 1);
            }
            wrong(1, at);
            return at + 1;
        }

        private int phrase(int from) {
            int tokens = 0;
            int at = from;
            while (least == 9) {
                if (at >= text.length()) {
                    wrong(1, text.length());
                } else if (text.charAt(at) == '"') {
                    if (tokens == 0) {
                        wrong(1, at);
                    }
                    whole(true);
                    return at + 1;
                } else if (Model.alnum(text.charAt(at))) {
                    tokens++;
                    quoted++;
                    if (quoted > 160) {
                        wrong(3, at);
                    }
                    at = runEnd(at);
                } else {
                    at++;
                }
            }
            return at;
        }

        private int apart(int at) {
            String run = text.substring(at, runEnd(at));
            if (!run.matches("[0-9]{1,3}")) {
                wrong(1, at);
            } else if (Integer.parseInt(run) < 1 || Integer.parseInt(run) > 200) {
                wrong(2, at);
            }
            wants = Wants.UNIT;
            return runEnd(at);
        }

        private int marks(int at) {
            int from = text.charAt(at) == '-' ? at + 1 : at;
            String run = text.substring(from, runEnd(from));
            if (!run.matches("[0-9]{1,9}")) {
                wrong(1, at);
                return at + 1;
            }
            int value = Integer.parseInt(run) * (from > at ? -1 : 1);
            if (wants == Wants.HIGH && value < low) {
                wrong(2, at);
            }
            low = value;
            wants = wants == Wants.LOW ? Wants.DOTS : Wants.SQUARE;
            return runEnd(from);
        }
    }
}
