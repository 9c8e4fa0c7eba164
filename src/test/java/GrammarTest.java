import java.util.ArrayList;
import java.util.HashSet;
import java.util.List;
import java.util.Random;
import java.util.Set;

/**
 * The faults of queries, held against the grammar of the document itself: its rules are worked as
 * they stand there (Earley's way, all readings at once), so that "with which no query goes on" is
 * found without a parser that goes the way of the class's own. Arguments: how many queries, and
 * the number that the first is drawn from.
 */
public final class GrammarTest {
    private static final int SYNTAX = 1;
    private static final int RANGE = 2;
    private static final int ROOM = 3;
    private static final int KIND = 4;

    // A rule: what it makes, and of what. TEXT is a phrase's tokens, of which there is one or more.
    private static final String[][] RULES = {
        {"query", "all"}, {"query", "query", "or", "all"},
        {"all", "nots"}, {"all", "all", "nots"}, {"all", "all", "and", "nots"},
        {"nots", "nearly"}, {"nots", "not", "nots"},
        {"nearly", "unit"}, {"nearly", "unit", "near", "NUMBER", "unit"},
        {"unit", "title", ":", "unit"}, {"unit", "body", ":", "unit"},
        {"unit", "(", "query", ")"},
        {"unit", "[", "INT", "..", "INT", "]"},
        {"unit", "QUOTE", "TEXT", "QUOTE"}, {"TEXT", "QUOTED"}, {"TEXT", "TEXT", "QUOTED"},
        {"unit", "TOKEN"}, {"unit", "TOKEN", "*"},
    };

    private static final String[] PARTS = {
        "a", "b", "cats", "12", "7", "or", "and", "not", "near 2", "NEAR 200", "near", "Not", "OR",
        "title:", "body :", "TITLE:", "title", "body", "(", ")", "(", ")", "[1..2]", "[-5 .. 5]", "[", "]",
        "..", "1", "-1", "\"a b\"", "\"or\"", "\"", "*", "a*", "(a)", "(a or b)", "x near 3 y",
    };

    private static final String[] ODD_PARTS = {
        "near 0", "near 201", "near 1000", "near 5b", "[2..1]", "[0..-1]", "[--1..2]", "[- 1..2]",
        "[1.2]", "[1...2]", "[1234567890..1]", "[123456789..999999999]", "[1..-1a]", "\"\"", "\" - \"", "#",
        ".", "-", ":", "\t", "\u0000", "\u00ff", "(a) near 2 b", "[1..2] near 3 x", "a near 3 [0..1]",
        "(x) near 1 title:b", "title:(a)", "body:title:[1..2]", "a near 1 (b)", "(a) near 1 \"b\"",
    };

    private static final String[] LONG_PARTS = {
        "not ".repeat(40), "not ".repeat(41), "title:".repeat(12), "body:".repeat(13), "(".repeat(12),
        "(".repeat(13), "a ".repeat(39), "a ".repeat(40), "[1..2]".repeat(40), "\"a\"".repeat(40),
        "\"" + "a ".repeat(160) + "\"", "\"" + "a ".repeat(80) + "\"", "\"" + "b ".repeat(161) + "\"",
    };

    /** A TOKEN, number or sign: where it is, and all that it may be. */
    private record Lexeme(int place, int end, Set<String> roles) {
        boolean is(String role) {
            return roles.contains(role);
        }

        boolean isSide() {
            return is("title") || is("body");
        }
    }

    /** A rule that is worked: how far, and with which lexeme it began. */
    private record Item(int rule, int done, int from) {
        String next() {
            return done + 1 < RULES[rule].length ? RULES[rule][done + 1] : "";
        }
    }

    /** A fault, with the lexeme at which it is come to. */
    private record Fault(int time, int number, int place) {
        boolean goesAhead(Fault other) {
            if (time != other.time) {
                return time < other.time;
            }
            // Of two KINDS that are seen at once the one further in has been whole before.
            return number != other.number ? number < other.number : place > other.place;
        }
    }

    /** What a unit is seen to be: at which lexeme it is whole, and whether it has PLACES. */
    private record Unit(int time, boolean places) {
    }

    private static String query = "";
    private static List<Lexeme> lexemes = new ArrayList<>();
    private static Fault first = null;

    public static void main(String[] args) {
        int most = args.length > 0 ? Integer.parseInt(args[0]) : 6000;
        int from = args.length > 1 ? Integer.parseInt(args[1]) : 0;
        int wrong = 0;
        int[] seen = new int[KIND + 1];
        for (int i = from; i < from + most; i++) {
            query = draw(new Random(i));
            int due = due();
            int got = Math.min(0, answer());
            seen[-due / 1000]++;
            if (got != due) {
                wrong++;
                System.out.println("search of <" + query + "> answered " + got + ", due is " + due);
            }
        }
        for (int number = 0; number <= KIND && most >= 1000; number++) {
            if (seen[number] * 100 < most) {
                wrong++;
                System.out.println("too few queries have the fault " + number + ": " + seen[number]);
            }
        }
        System.out.println(wrong == 0 ? "all faults are those of the grammar" : wrong + " are wrong");
        if (wrong != 0) {
            System.exit(1);
        }
    }

    private static String draw(Random random) {
        StringBuilder made = new StringBuilder();
        int parts = 1 + random.nextInt(9);
        for (int i = 0; i < parts; i++) {
            int sort = random.nextInt(40);
            String[] from = sort < 1 ? LONG_PARTS : sort < 5 ? ODD_PARTS : PARTS;
            made.append(from[random.nextInt(from.length)]);
            made.append(random.nextInt(8) == 0 ? "" : random.nextInt(8) == 0 ? "\n" : " ");
        }
        return made.length() > 600 ? made.substring(0, 600) : made.toString();
    }

    private static int answer() {
        GammaShelf shelf = new GammaShelf();
        for (int i = 0; i < query.length(); i += 20) {
            shelf.feed(four(i), four(i + 4), four(i + 8), four(i + 12), four(i + 16));
        }
        shelf.end(query.length());
        return shelf.search();
    }

    private static int four(int from) {
        int bytes = 0;
        for (int i = from; i < from + 4; i++) {
            bytes = bytes << 8 | (i < query.length() ? query.charAt(i) : 0);
        }
        return bytes;
    }

    private static int due() {
        readLexemes();
        first = null;
        int good = goodLexemes();
        if (good < lexemes.size()) {
            add(good, SYNTAX, lexemes.get(good).place());
        }
        addNumbers(good);
        addLeafRoom(good);
        addOpen(good);
        addRows(good);
        addKinds(good);
        return first == null ? 0 : -(1000 * first.number() + first.place() + 1);
    }

    private static void add(int time, int number, int place) {
        Fault fault = new Fault(time, number, place);
        if (first == null || fault.goesAhead(first)) {
            first = fault;
        }
    }

    // ---- lexemes

    private static boolean inRun(int i) {
        return i < query.length() && (query.charAt(i) + "").matches("[A-Za-z0-9]");
    }

    private static int runEnd(int from) {
        int end = from;
        while (inRun(end)) {
            end++;
        }
        return end;
    }

    private static int behindBlanks(int from) {
        int behind = from;
        while (behind < query.length() && (query.charAt(behind) == ' ' || query.charAt(behind) == '\n')) {
            behind++;
        }
        return behind;
    }

    private static void readLexemes() {
        lexemes = new ArrayList<>();
        boolean quoted = false;
        int at = behindBlanks(0);
        while (at < query.length()) {
            if (query.charAt(at) == '"') {
                quoted = !quoted;
                lexemes.add(new Lexeme(at, at + 1, Set.of("QUOTE")));
            } else if (!quoted) {
                lexemes.add(lexemeAt(at));
            } else if (inRun(at)) {
                lexemes.add(new Lexeme(at, runEnd(at), Set.of("QUOTED")));
            }
            boolean skipped = quoted && query.charAt(at) != '"' && !inRun(at);
            at = skipped ? at + 1 : lexemes.get(lexemes.size() - 1).end();
            at = quoted ? at : behindBlanks(at);
        }
    }

    private static Lexeme lexemeAt(int at) {
        if (inRun(at)) {
            return new Lexeme(at, runEnd(at), rolesOfRun(at, runEnd(at)));
        }
        if (query.startsWith("..", at)) {
            return new Lexeme(at, at + 2, Set.of(".."));
        }
        if (query.charAt(at) == '-' && query.substring(at + 1, runEnd(at + 1)).matches("[0-9]{1,9}")) {
            return new Lexeme(at, runEnd(at + 1), Set.of("INT"));
        }
        return new Lexeme(at, at + 1, Set.of(query.substring(at, at + 1)));
    }

    private static Set<String> rolesOfRun(int from, int end) {
        String run = query.substring(from, end).toLowerCase();
        if (run.matches("or|and|not|near") || run.matches("title|body") && query.startsWith(":", behindBlanks(end))) {
            return Set.of(run);
        }
        Set<String> roles = new HashSet<>(Set.of("TOKEN"));
        if (run.matches("[0-9]{1,3}")) {
            roles.add("NUMBER");
        }
        if (run.matches("[0-9]{1,9}")) {
            roles.add("INT");
        }
        return roles;
    }

    // ---- SYNTAX

    /** How many lexemes stand ahead of the first with which no query goes on; adds a wrong end. */
    private static int goodLexemes() {
        List<Set<Item>> charts = new ArrayList<>();
        Set<Item> starts = new HashSet<>(Set.of(new Item(0, 0, 0), new Item(1, 0, 0)));
        charts.add(new HashSet<>());
        close(charts, starts);
        for (int i = 0; i < lexemes.size(); i++) {
            Set<Item> moved = new HashSet<>();
            for (Item item : charts.get(i)) {
                if (lexemes.get(i).is(item.next())) {
                    moved.add(new Item(item.rule(), item.done() + 1, item.from()));
                }
            }
            if (moved.isEmpty()) {
                return i;
            }
            charts.add(new HashSet<>());
            close(charts, moved);
        }
        for (Item item : charts.get(lexemes.size())) {
            if (item.from() == 0 && item.next().isEmpty() && RULES[item.rule()][0].equals("query")) {
                return lexemes.size();
            }
        }
        add(lexemes.size(), SYNTAX, query.length());
        return lexemes.size();
    }

    private static void close(List<Set<Item>> charts, Set<Item> begun) {
        Set<Item> chart = charts.get(charts.size() - 1);
        List<Item> left = new ArrayList<>(begun);
        while (!left.isEmpty()) {
            Item item = left.remove(left.size() - 1);
            if (!chart.add(item)) {
                continue;
            }
            for (int rule = 0; rule < RULES.length; rule++) {
                if (RULES[rule][0].equals(item.next())) {
                    left.add(new Item(rule, 0, charts.size() - 1));
                }
            }
            if (item.next().isEmpty()) {
                for (Item waiting : charts.get(item.from())) {
                    if (waiting.next().equals(RULES[item.rule()][0])) {
                        left.add(new Item(waiting.rule(), waiting.done() + 1, waiting.from()));
                    }
                }
            }
        }
    }

    // ---- RANGE, ROOM, KIND

    private static boolean follows(int i, String role) {
        return i > 0 && lexemes.get(i - 1).is(role);
    }

    private static int valueOf(int i) {
        return Integer.parseInt(query.substring(lexemes.get(i).place(), lexemes.get(i).end()));
    }

    private static void addNumbers(int good) {
        for (int i = 0; i < good; i++) {
            boolean near = follows(i, "near") && (valueOf(i) == 0 || valueOf(i) > 200);
            if (near || follows(i, "..") && valueOf(i) < valueOf(i - 2)) {
                add(i, RANGE, lexemes.get(i).place());
            }
        }
    }

    private static void addLeafRoom(int good) {
        int leaves = 0;
        int quoted = 0;
        for (int i = 0; i < good; i++) {
            Lexeme lexeme = lexemes.get(i);
            boolean number = follows(i, "near") || follows(i, "[") || follows(i, "..");
            boolean token = lexeme.is("TOKEN") && !number;
            if (token || lexeme.is("[") || lexeme.is("QUOTE") && !follows(i, "QUOTED")) {
                leaves++;
            }
            quoted += lexeme.is("QUOTED") ? 1 : 0;
            if (leaves > 40 || quoted > 160) {
                add(i, ROOM, lexeme.place());
                return;
            }
        }
    }

    private static void addOpen(int good) {
        int open = 0;
        for (int i = 0; i < good; i++) {
            if (lexemes.get(i).is("(") && open == 12) {
                add(i, ROOM, lexemes.get(i).place());
                return;
            }
            open += lexemes.get(i).is("(") ? 1 : lexemes.get(i).is(")") ? -1 : 0;
        }
    }

    private static void addRows(int good) {
        int nots = 0;
        int sides = 0;
        for (int i = 0; i < good; i++) {
            Lexeme lexeme = lexemes.get(i);
            nots = lexeme.is("not") ? nots + 1 : 0;
            sides = lexeme.isSide() ? sides + 1 : lexeme.is(":") ? sides : 0;
            if (nots > 40 || sides > 12) {
                add(i, ROOM, lexeme.place());
                return;
            }
        }
    }

    private static void addKinds(int good) {
        for (int i = 0; i < good; i++) {
            Lexeme lexeme = lexemes.get(i);
            Unit unit = lexeme.isSide() || lexeme.is("near") ? unitAt(i + 2) : null;
            boolean wrongAhead = lexeme.is("near") && (follows(i, ")") || follows(i, "]"));
            // What is not whole where the query breaks off has no kind yet.
            if (unit != null && unit.time() <= good && (wrongAhead || !unit.places())) {
                add(unit.time(), KIND, lexeme.place());
            }
        }
    }

    private static Unit unitAt(int from) {
        int i = from;
        while (i < lexemes.size() && lexemes.get(i).isSide()) {
            i += 2;
        }
        if (i >= lexemes.size()) {
            return null;
        }
        if (lexemes.get(i).is("(")) {
            return closing(i);
        }
        if (lexemes.get(i).is("[")) {
            return i + 4 < lexemes.size() ? new Unit(i + 4, false) : null;
        }
        if (lexemes.get(i).is("QUOTE")) {
            int end = i + 1;
            while (end < lexemes.size() && lexemes.get(end).is("QUOTED")) {
                end++;
            }
            return end < lexemes.size() ? new Unit(end, true) : null;
        }
        // A * and what shows that none comes stand in the same place.
        return lexemes.get(i).is("TOKEN") ? new Unit(i + 1, true) : null;
    }

    private static Unit closing(int from) {
        int open = 0;
        for (int i = from; i < lexemes.size(); i++) {
            open += lexemes.get(i).is("(") ? 1 : lexemes.get(i).is(")") ? -1 : 0;
            if (open == 0) {
                return new Unit(i, false);
            }
        }
        return null;
    }
}
