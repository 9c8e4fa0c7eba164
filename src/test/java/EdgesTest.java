import java.util.function.IntSupplier;

/**
 * For each sentence of the document that names a boundary case a test of its own: the last thing
 * that is in, the first that is out, the empty, the full and the refused. No object gets more
 * than the 512 calls for which the document promises anything.
 */
public final class EdgesTest {
    private static final int NONE = -1;
    private static final int FULL = -2;
    private static final int MIN = Integer.MIN_VALUE;
    private static final int MAX = Integer.MAX_VALUE;
    private static final int MOST_CALLS = 512;

    private static final int SYNTAX = 1;
    private static final int RANGE = 2;
    private static final int ROOM = 3;
    private static final int KIND = 4;

    private static int wrong = 0;
    private static int calls = 0;
    private static String told = "";
    private static GammaShelf shelf = new GammaShelf();

    public static void main(String[] args) {
        tapeEdges();
        wordEdges();
        textEdges();
        bitEdges();
        roomEdges();
        lexemeEdges();
        faultEdges();
        queryRoomEdges();
        leafEdges();
        codeEdges();
        rankEdges();
        callEdges();
        System.out.println(wrong == 0 ? "all edges hold" : wrong + " answers at edges are not as due");
        if (wrong != 0) {
            System.exit(1);
        }
    }

    // ---- helpers

    /** A sentence of the document, for which a new object is made. */
    private static void sentence(String words) {
        told = words;
        fresh();
    }

    private static void fresh() {
        shelf = new GammaShelf();
        calls = 0;
    }

    /** The object, for one call. */
    private static GammaShelf x() {
        calls++;
        if (calls == MOST_CALLS + 1) {
            report("the test itself makes more than 512 calls");
        }
        return shelf;
    }

    private static void report(String what) {
        wrong++;
        System.out.println("\"" + told + "\": " + what);
    }

    private static void due(String call, int got, int want) {
        if (got != want) {
            report(call + " answered " + got + ", due is " + want);
        }
    }

    private static void due(String call, boolean got, boolean want) {
        due(call, got ? 1 : 0, want ? 1 : 0);
    }

    private static void dueThrow(String call, IntSupplier made) {
        try {
            report(call + " answered " + made.getAsInt() + ", due is an IndexOutOfBoundsException");
        } catch (RuntimeException e) {
            if (e.getClass() != IndexOutOfBoundsException.class) {
                report(call + " threw " + e.getClass().getName());
            }
        }
    }

    private static int four(String text, int from) {
        int value = 0;
        for (int i = from; i < from + 4; i++) {
            value = value << 8 | (i < text.length() ? text.charAt(i) & 255 : 0);
        }
        return value;
    }

    private static int feed(String text, int from) {
        return x().feed(four(text, from), four(text, from + 4), four(text, from + 8),
            four(text, from + 12), four(text, from + 16));
    }

    /** Puts a text on the tape, which must be empty. */
    private static void tape(String text) {
        for (int i = 0; i < text.length(); i += 20) {
            feed(text, i);
        }
        due("end of a text", x().end(text.length()), text.length());
    }

    private static int enter(String text) {
        tape(text);
        return x().enter();
    }

    private static int look(String text) {
        tape(text);
        return x().look();
    }

    private static int stop(String text, boolean on) {
        tape(text);
        return x().stop(on);
    }

    private static int nearest(String text) {
        tape(text);
        return x().nearest();
    }

    private static int search(String text) {
        tape(text);
        return x().search();
    }

    private static void finds(String query, int... numbers) {
        due("search " + query, search(query), numbers.length);
        for (int i = 0; i < numbers.length; i++) {
            due("hit(" + i + ") of " + query, x().hit(i), numbers[i]);
        }
        due("hit behind the last of " + query, x().hit(numbers.length), NONE);
    }

    /** A query that is read without a fault, whatever it finds. */
    private static void reads(String query) {
        int answer = search(query);
        if (answer < 0) {
            report("search " + query + " answered " + answer + ", due is no fault");
        }
    }

    private static void fault(String query, int number, int place) {
        due("search " + query, search(query), -(1000 * number + place + 1));
    }

    private static void steps(String query, int... wanted) {
        reads(query);
        for (int i = 0; i < wanted.length; i++) {
            due("code(" + i + ") of " + query, x().code(i), wanted[i]);
        }
        due("code behind the last of " + query, x().code(wanted.length), NONE);
    }

    private static void scoreIs(int i, int want) {
        due("rank(" + i + ", 1)", x().rank(i, 1), want);
    }

    private static void shownIs(int i, int want) {
        due("rank(" + i + ", 2)", x().rank(i, 2), want);
    }

    /** On an object of its own: the word that a token has. */
    private static void wordIs(String token, String word) {
        fresh();
        enter(token);
        int words = x().count(2);
        due("WORDS of " + token, words, 1);
        for (int i = 0; i <= word.length() && words > 0; i++) {
            due("letter(0, " + i + ") of " + token, x().letter(0, i), i < word.length() ? word.charAt(i) : 0);
        }
    }

    private static void bitsAre(String word, String bits) {
        bitsAre(word, 0, bits);
    }

    /** The bits of a posting from one on, to its end. */
    private static void bitsAre(String word, int from, String bits) {
        look(word);
        int length = x().posting(0);
        due("bits of " + word, length, from + bits.length());
        for (int i = from; i < from + bits.length() && i < length; i++) {
            due("bit(" + i + ") of " + word, x().bit(i), bits.charAt(i - from) - '0');
        }
    }

    private static String gamma(int n) {
        String binary = Integer.toBinaryString(n);
        return "0".repeat(binary.length() - 1) + binary;
    }

    private static String numbers(int first, int times) {
        StringBuilder text = new StringBuilder();
        for (int i = 0; i < times; i++) {
            text.append(first + i).append(' ');
        }
        return text.toString();
    }

    private static boolean inToken(int b) {
        return b >= '0' && b <= '9' || b >= 'A' && b <= 'Z' || b >= 'a' && b <= 'z';
    }

    private static void enterEmpty(int times) {
        for (int i = 0; i < times; i++) {
            x().enter();
        }
    }

    // ---- term 1 and promises 2, 3: the tape

    private static void tapeEdges() {
        tapeOf600();
        refusedFeedLeavesAll();
        bytesInOrder();
        cuts();
        emptyTape();
        readersEmpty();
        othersLeaveTheTape();
    }

    private static void tapeOf600() {
        sentence("THE TAPE has at most 600 bytes");
        for (int i = 1; i <= 30; i++) {
            due("feed " + i, x().feed(0, 0, 0, 0, 0), 20 * i);
        }
        due("one feed more", x().feed(0, 0, 0, 0, 0), FULL);
        due("bytes", x().count(6), 600);
        due("end(580)", x().end(580), 580);
        due("feed up to 600", x().feed(0, 0, 0, 0, 0), 600);
        due("end(581)", x().end(581), 581);
        due("feed up to 601", x().feed(0, 0, 0, 0, 0), FULL);
        due("bytes", x().count(6), 581);
        due("end(579)", x().end(579), 579);
        due("feed up to 599", x().feed(0, 0, 0, 0, 0), 599);
        due("feed up to 619", x().feed(0, 0, 0, 0, 0), FULL);
        due("bytes", x().count(6), 599);
    }

    private static void refusedFeedLeavesAll() {
        sentence("FULL, and none come, when there would be more than 600");
        tape("abc" + " ".repeat(578));
        due("feed up to 601", feed("x y z u v w x y z u v w", 0), FULL);
        due("feed of a token", feed("defghijk", 0), FULL);
        due("enter", x().enter(), 0);
        due("LENGTH", x().document(0, 1), 1);
        fresh();
        tape("abc" + " ".repeat(576) + "d");
        due("feed up to 600", feed("efghijk l m n o p qr", 0), 600);
        due("enter", x().enter(), 0);
        due("LENGTH", x().document(0, 1), 8);
        due("the last two bytes", look("qr"), 1);
        due("over the border", look("defghijk"), 1);
    }

    private static void bytesInOrder() {
        sentence("Twenty bytes come behind THE TAPE, the highest of each int first");
        x().feed(0xFF616263, 0x6465FFFF, 0x80008081, -1, 0xFEFEFE66);
        x().feed(0x67FF6869, MIN, MAX, 0, 0x0A6A6B6C);
        due("enter", x().enter(), 0);
        due("WORDS", x().count(2), 4);
        String[] due = {"abcde", "fg", "hi", "jkl"};
        for (int k = 0; k < due.length; k++) {
            for (int i = 0; i <= due[k].length(); i++) {
                due("letter(" + k + ", " + i + ")", x().letter(k, i), i < due[k].length() ? due[k].charAt(i) : 0);
            }
        }
    }

    private static void cuts() {
        sentence("NONE when it has not so many, or n is below 0");
        due("end(0) of none", x().end(0), 0);
        due("end(1) of none", x().end(1), NONE);
        due("end(-1) of none", x().end(-1), NONE);
        feed("abcdefghijklmnopqrst", 0);
        due("end(-1)", x().end(-1), NONE);
        due("end(MIN)", x().end(MIN), NONE);
        due("end(21)", x().end(21), NONE);
        due("end(MAX)", x().end(MAX), NONE);
        due("bytes", x().count(6), 20);
        due("end(20)", x().end(20), 20);
        due("end(19)", x().end(19), 19);
        due("end(20) of 19", x().end(20), NONE);
        due("bytes", x().count(6), 19);
        sentence("THE TAPE has its first n bytes alone");
        feed("abcdefghijklmnopqrst", 0);
        x().end(3);
        feed("xy", 0);
        x().enter();
        due("what was fed behind the cut", look("abcxy"), 1);
        feed("abc", 0);
        due("end(0)", x().end(0), 0);
        due("enter", x().enter(), 1);
        due("nothing is left", x().document(1, 1), 0);
    }

    private static void emptyTape() {
        sentence("the empty TAPE");
        due("stop(true)", x().stop(true), NONE);
        due("stop(false)", x().stop(false), NONE);
        due("look()", x().look(), 0);
        due("nearest()", x().nearest(), NONE);
        due("search()", x().search(), -1001);
        due("enter()", x().enter(), 0);
        due("LENGTH", x().document(0, 1), 0);
        due("WORDS that it keeps", x().document(0, 3), 0);
        due("WORDS", x().count(2), 0);
        due("TAKEN", x().count(3), 0);
        due("bits", x().count(4), 0);
        due("STOP WORDS", x().count(5), 0);
        finds("not a", 0);
        due("like an empty one", x().like(0), NONE);
    }

    private static void readersEmpty() {
        sentence("each call that reads it empties it, whatever it answers");
        due("enter", enter("cat dog"), 0);
        emptied("enter()");
        stop("the", true);
        emptied("stop(true)");
        stop("the", false);
        emptied("stop(false)");
        stop("?", true);
        emptied("stop(true) without a TOKEN");
        stop("?", false);
        emptied("stop(false) without a TOKEN");
        look("cat");
        emptied("look()");
        look("none");
        emptied("look() of no POSTING");
        look("?");
        emptied("look() without a TOKEN");
        nearest("cut");
        emptied("nearest()");
        nearest("faraway");
        emptied("nearest() of none so near");
        nearest("?");
        emptied("nearest() without a TOKEN");
        search("cat");
        emptied("search()");
        search("cat )");
        emptied("search() with a FAULT");
        for (int i = 0; i < 10; i++) {
            stop("w" + i, true);
        }
        due("the 11th", stop("more", true), FULL);
        emptied("stop() that is FULL");
        enterEmpty(119);
        due("the 121st", enter("bird"), FULL);
        emptied("enter() that is FULL");
    }

    private static void emptied(String call) {
        due("bytes behind " + call, x().count(6), 0);
    }

    private static void othersLeaveTheTape() {
        sentence("a call that does not read THE TAPE leaves it");
        enter("cat dog");
        enter("cat");
        search("cat");
        look("cat");
        tape("dog bird");
        x().remove(1);
        x().mark(0, 1);
        x().tidy();
        x().document(0, 0);
        x().posting(0);
        x().bit(0);
        for (int what = -1; what <= 7; what++) {
            x().count(what);
        }
        x().letter(0, 0);
        x().hit(0);
        x().rank(0, 0);
        x().code(0);
        x().deepest();
        x().like(0);
        x().end(9);
        dueThrow("like(1)", () -> x().like(1));
        dueThrow("document(2, 0)", () -> x().document(2, 0));
        due("bytes", x().count(6), 8);
        due("look()", x().look(), 1);
        due("its bits", x().posting(0), 5);
    }

    // ---- term 1: tokens and words

    private static void wordEdges() {
        bytesOfTokens();
        twelveBytes();
        endings();
        digitsForbidEndings();
        endingsOfTheFirstTwelve();
    }

    private static void bytesOfTokens() {
        sentence("a run, as long as it goes, of letters (A .. Z, a .. z) and digits");
        for (int b = 0; b < 256; b++) {
            fresh();
            enter("xa" + (char) b + "ya");
            due("WORDS with byte " + b, x().document(0, 3), inToken(b) ? 1 : 2);
            if (inToken(b)) {
                due("byte " + b + " in a WORD", x().letter(0, 2), b >= 'A' && b <= 'Z' ? b + 32 : b);
            }
        }
        for (String edge : new String[] {"0", "9", "A", "Z", "a", "z"}) {
            wordIs(edge, edge.toLowerCase());
        }
    }

    private static void twelveBytes() {
        sentence("its first 12 bytes, great letters made small");
        wordIs("abcdefghijk", "abcdefghijk");
        wordIs("abcdefghijkl", "abcdefghijkl");
        wordIs("abcdefghijklm", "abcdefghijkl");
        wordIs("ABCDEFGHIJKLM", "abcdefghijkl");
        wordIs("z".repeat(600), "zzzzzzzzzzzz");
        fresh();
        enter("abcdefghijklm abcdefghijkln abcdefghijkl");
        due("the 13th byte parts nothing", x().count(2), 1);
        enter("abcdefghijkm");
        due("the 12th byte does", x().count(2), 2);
        due("look by 13 bytes", look("abcdefghijklzz"), 1);
    }

    private static void endings() {
        sentence("it has 5 bytes or more and ends by \"ies\": y in place of that");
        wordIs("abies", "aby");
        wordIs("abcies", "abcy");
        wordIs("ABIES", "aby");
        // Too short for "ies", so "s" is the first that fits.
        wordIs("bies", "bie");
        wordIs("ies", "ies");
        sentence("6 or more, \"ing\": that goes");
        wordIs("abcing", "abc");
        wordIs("abcding", "abcd");
        wordIs("bcing", "bcing");
        wordIs("ing", "ing");
        sentence("5 or more, \"ed\": that goes");
        wordIs("abced", "abc");
        wordIs("abcded", "abcd");
        wordIs("bced", "bced");
        wordIs("ed", "ed");
        sentence("4 or more, \"s\" but not \"ss\", \"us\", \"is\": that goes");
        wordIs("abcs", "abc");
        wordIs("abcds", "abcd");
        wordIs("bcs", "bcs");
        wordIs("s", "s");
        wordIs("abss", "abss");
        wordIs("abus", "abus");
        wordIs("abis", "abis");
        wordIs("abes", "abe");
        sentence("by the first of these that fits, once");
        wordIs("abcings", "abcing");
        wordIs("abceds", "abced");
        wordIs("abceding", "abced");
        wordIs("abcinged", "abcing");
        wordIs("abciesed", "abcies");
        wordIs("abcsies", "abcsy");
        wordIs("abcssing", "abcss");
        wordIs("abcdss", "abcdss");
    }

    private static void digitsForbidEndings() {
        sentence("if it has no digit");
        wordIs("abc1ies", "abc1ies");
        wordIs("0abcing", "0abcing");
        wordIs("abc9ed", "abc9ed");
        wordIs("9abcs", "9abcs");
        wordIs("abcdefghij0s", "abcdefghij0s");
    }

    private static void endingsOfTheFirstTwelve() {
        sentence("Its WORD: its first 12 bytes, ..; then, by the first of these that fits");
        wordIs("abcdefghijks", "abcdefghijk");
        wordIs("abcdefghijkls", "abcdefghijkl");
        wordIs("abcdefghijksz", "abcdefghijk");
        wordIs("abcdefghijs1z", "abcdefghijs1");
        wordIs("abcdefghiies", "abcdefghiy");
        wordIs("abcdefghiiesz", "abcdefghiy");
        wordIs("abcdefghijies", "abcdefghijie");
        wordIs("abcdefghiing", "abcdefghi");
        wordIs("abcdefghijing", "abcdefghijin");
        wordIs("abcdefghijed", "abcdefghij");
        wordIs("abcdefghijked", "abcdefghijke");
        // The digit is the 13th byte, so what has the ending has none.
        wordIs("abcdefghijks1", "abcdefghijk");
    }

    // ---- term 1, promises 4, 8: texts

    private static void textEdges() {
        titleAndBody();
        farPlaces();
        stopWordsAtThatTime();
        tenStopWords();
        hundredAndTwenty();
    }

    private static void titleAndBody() {
        sentence("its TITLE goes to the first line feed (10) or the end, its BODY comes behind that");
        enter("aa bb");
        bitsAre("aa", gamma(1) + gamma(1) + gamma(1));
        bitsAre("bb", gamma(1) + gamma(1) + gamma(2));
        fresh();
        enter("aa\nbb");
        bitsAre("bb", gamma(1) + gamma(1) + gamma(513));
        fresh();
        enter("aa\nbb\ncc");
        bitsAre("cc", gamma(1) + gamma(1) + gamma(514));
        fresh();
        enter("\naa");
        bitsAre("aa", gamma(1) + gamma(1) + gamma(513));
        fresh();
        enter("\n\naa");
        bitsAre("aa", gamma(1) + gamma(1) + gamma(513));
        fresh();
        enter("aa\n");
        bitsAre("aa", gamma(1) + gamma(1) + gamma(1));
        fresh();
        enter("aa\raa\naa");
        bitsAre("aa", gamma(1) + gamma(3) + gamma(1) + gamma(1) + gamma(511));
        fresh();
        due("a line feed alone", enter("\n"), 0);
        due("LENGTH", x().document(0, 1), 0);
    }

    private static void farPlaces() {
        sentence("in the TITLE 0, 1, .. as they come, in the BODY 512, 513, ..");
        enter("b ".repeat(299) + "aa");
        bitsAre("aa", gamma(1) + gamma(1) + gamma(300));
        due("LENGTH of 300", x().document(0, 1), 300);
        fresh();
        enter("\n" + "b ".repeat(298) + "aa");
        bitsAre("aa", gamma(1) + gamma(1) + gamma(811));
        fresh();
        enter("\n" + "b ".repeat(299) + "c");
        bitsAre("c", gamma(1) + gamma(1) + gamma(812));
        finds("c near 1 b", 0);
        due("the last PLACE of all", search("c"), 1);
        shownIs(0, 811);
        fresh();
        enter("a ".repeat(300));
        look("a");
        due("bits", x().posting(0), 1 + 17 + 300);
        due("PLACES", x().posting(3), 300);
        due("bit of the last PLACE", x().bit(317), 1);
    }

    private static void stopWordsAtThatTime() {
        sentence("A TOKEN whose WORD is a STOP WORD (at that time ..) has a PLACE, but is not kept");
        enter("the cat");
        stop("the", true);
        enter("the THE cat thes\nThe cat the");
        due("LENGTH ahead of it", x().document(0, 1), 2);
        due("LENGTH behind it", x().document(1, 1), 2);
        due("WORDS behind it", x().document(1, 3), 1);
        bitsAre("cat", gamma(1) + gamma(1) + gamma(2) + gamma(1) + gamma(2) + gamma(3) + gamma(511));
        due("the was kept once", look("the"), 1);
        stop("the", false);
        enter("the");
        due("kept again", look("the"), 2);
        due("its LENGTH", x().document(2, 1), 1);
        stop("the", true);
        due("a text of STOP WORDS alone", enter("the the\nthe"), 3);
        due("its LENGTH", x().document(3, 1), 0);
        due("its WORDS", x().document(3, 3), 0);
    }

    private static void tenStopWords() {
        sentence("at most 10, none at first");
        due("at first", x().count(5), 0);
        for (int i = 1; i <= 10; i++) {
            due("STOP WORD " + i, stop("w" + i, true), i);
        }
        sentence("how many there are; NONE without a TOKEN; FULL when it would be the 11th");
        for (int i = 1; i <= 10; i++) {
            stop("w" + i, true);
        }
        due("the 11th", stop("more", true), FULL);
        due("how many there are", x().count(5), 10);
        enter("more w1 w10 w11");
        due("the 11th is none", x().document(0, 1), 2);
        due("one of the ten", stop("W10 w11", true), 10);
        due("without a TOKEN", stop("--", true), NONE);
        due("one that is none", stop("more", false), 10);
        due("none any more", stop("w1", false), 9);
        due("none any more, again", stop("w1", false), 9);
        due("the 10th", stop("more", true), 10);
        due("the 11th", stop("w1", true), FULL);
        for (int i = 2; i <= 10; i++) {
            due("off", stop("w" + i, false), 11 - i);
        }
        due("the last one off", stop("more", false), 0);
        due("one off of none", stop("more", false), 0);
        due("how many there are", x().count(5), 0);
    }

    private static void hundredAndTwenty() {
        sentence("DOCUMENTS are numbered from 0 as they come, at most 120 ever");
        for (int i = 0; i < 119; i++) {
            due("number", x().enter(), i);
        }
        due("the 120th", enter("cat"), 119);
        due("the 121st", enter("dog"), FULL);
        due("the 121st, empty", x().enter(), FULL);
        due("DOCUMENTS ever", x().count(0), 120);
        due("ON", x().count(1), 120);
        due("WORDS", x().count(2), 1);
        bitsAre("cat", gamma(120) + gamma(1) + gamma(1));
        x().remove(119);
        x().tidy();
        due("removed ones came too", enter("dog"), FULL);
        due("WORDS", x().count(2), 0);
        due("DOCUMENTS ever", x().count(0), 120);
        sentence("each has a MARK, an int, 0 at first");
        x().enter();
        due("MARK", x().document(0, 2), 0);
        due("the least", x().mark(0, MIN), true);
        due("MARK", x().document(0, 2), MIN);
        due("the greatest", x().mark(0, MAX), true);
        due("MARK", x().document(0, 2), MAX);
        due("NONE is one too", x().mark(0, NONE), true);
        due("MARK", x().document(0, 2), NONE);
        x().enter();
        due("MARK of the next one", x().document(1, 2), 0);
    }

    // ---- term 2: bits

    private static void bitEdges() {
        gammaCodes();
        documentSteps();
        removedOnesTillTidy();
        chunkEdges();
        chunksMadeAnew();
        wordsBetweenTidies();
        fullAndFullAgain();
    }

    private static void gammaCodes() {
        sentence("the binary digits of n, the highest first, and ahead of them one 0 less than there are digits");
        int[] places = {1, 2, 3, 4, 5, 7, 8, 15, 16, 127, 128, 255, 256, 300};
        for (int n : places) {
            fresh();
            enter("b ".repeat(n - 1) + "aa");
            bitsAre("aa", "1" + "1" + gamma(n));
        }
        fresh();
        enter("aa b b aa b b b aa aa");
        bitsAre("aa", "1" + "00100" + "1" + "011" + "00100" + "1");
        sentence("G(in how many PLACES)");
        int[] times = {1, 2, 3, 4, 7, 8, 63, 64};
        for (int n : times) {
            fresh();
            enter("a ".repeat(n));
            bitsAre("a", "1" + gamma(n) + "1".repeat(n));
        }
    }

    private static void documentSteps() {
        sentence("G(its number less that of the one ahead, -1 ahead of the first)");
        int[] numbers = {0, 1, 2, 3, 6, 7, 14, 15, 62, 63, 118, 119};
        for (int number : numbers) {
            fresh();
            enterEmpty(number);
            due("number", enter("a"), number);
            bitsAre("a", gamma(number + 1) + "1" + "1");
        }
        for (int step : new int[] {1, 2, 3, 4, 63, 64, 119}) {
            fresh();
            enter("a");
            enterEmpty(step - 1);
            enter("a");
            bitsAre("a", "1" + "1" + "1" + gamma(step) + "1" + "1");
        }
    }

    private static void removedOnesTillTidy() {
        sentence("for each DOCUMENT that keeps it (also removed ones, till tidy())");
        enter("a");
        enter("a a");
        enter("a");
        x().remove(1);
        bitsAre("a", "111" + "101011" + "111");
        enter("a");
        bitsAre("a", "111" + "101011" + "111" + "111");
        due("no CHUNK fewer", x().tidy(), 0);
        bitsAre("a", "111" + "01011" + "111");
        due("bits of all", x().count(4), 11);
        x().remove(3);
        x().tidy();
        enter("a");
        bitsAre("a", "111" + "01011" + "01011");
        due("DOCUMENTS of a", look("a"), 3);
        sentence("a WORD that none keeps is gone");
        enter("a b");
        enter("b c");
        x().remove(0);
        due("WORDS till tidy", x().count(2), 3);
        due("look a", look("a"), 1);
        due("tidy", x().tidy(), 48);
        due("WORDS", x().count(2), 2);
        due("look a", look("a"), 0);
        due("look b", look("b"), 1);
        x().remove(1);
        due("tidy", x().tidy(), 96);
        due("WORDS", x().count(2), 0);
        due("TAKEN", x().count(3), 0);
        due("bits", x().count(4), 0);
        due("tidy of nothing", x().tidy(), 0);
        due("the next number", enter("a"), 2);
        bitsAre("a", "011" + "1" + "1");
    }

    /** Makes the posting of a have so many bits, by texts of a alone; 9 and more. */
    private static void growTo(int bits) {
        int left = bits;
        // 200 places one behind the other: 1, G(200) of 15 and 200 bits.
        while (left > 216 + 14) {
            enter("a ".repeat(200));
            left -= 216;
        }
        while (left % 3 != 0) {
            enter("a a a");
            left -= 7;
        }
        while (left > 0) {
            enter("a");
            left -= 3;
        }
    }

    private static void chunkEdges() {
        sentence("the first has 32 bits, each other one twice as many as the one ahead, but 256 at most");
        int[] ends = {32, 32 + 64, 32 + 64 + 128, 32 + 64 + 128 + 256, 32 + 64 + 128 + 256 + 256};
        int[] taken = {48, 128, 272, 544, 816, 1088};
        for (int i = 0; i < ends.length; i++) {
            chunksAre(ends[i] - 1, i + 1, taken[i]);
            chunksAre(ends[i], i + 1, taken[i]);
            chunksAre(ends[i] + 1, i + 2, taken[i + 1]);
        }
        sentence("tidy(): how many bits fewer are TAKEN");
        growTo(96);
        enter("a");
        due("TAKEN", x().count(3), 272);
        x().remove(32);
        due("three CHUNKS become two", x().tidy(), 144);
        due("TAKEN", x().count(3), 128);
    }

    /** Chunks of two words lie between one another, and move when texts between are removed. */
    private static void chunksMadeAnew() {
        sentence("POSTINGS are made anew without removed DOCUMENTS");
        for (int i = 0; i < 12; i++) {
            enter("ka kb\nka kb ka");
        }
        for (int i = 1; i < 12; i += 2) {
            x().remove(i);
        }
        // With 324 and 312 bits both had four CHUNKS; with 172 and 166 they have three.
        due("tidy", x().tidy(), 2 * 272);
        String ka = gamma(3) + gamma(1) + gamma(512) + gamma(2);
        String kb = gamma(2) + gamma(2) + gamma(512);
        bitsAre("ka", gamma(1) + ka + (gamma(2) + ka).repeat(5));
        bitsAre("kb", gamma(1) + kb + (gamma(2) + kb).repeat(5));
        due("DOCUMENTS of kb", look("kb"), 6);
        enter("kb ka");
        bitsAre("kb", 166, gamma(2) + gamma(1) + gamma(1));
        bitsAre("ka", 172, gamma(2) + gamma(1) + gamma(2));
        finds("\"ka kb ka\"", 0, 2, 4, 6, 8, 10);
        sentence("tidy() of 120 DOCUMENTS");
        for (int i = 0; i < 120; i++) {
            enter("a");
        }
        due("tidy", x().tidy(), 0);
        due("DOCUMENTS of a", look("a"), 120);
        due("ON", x().posting(2), 120);
        due("PLACES", x().posting(3), 120);
        due("bits", x().posting(0), 360);
        due("like(119)", x().like(119), 0);
        due("like(0)", x().like(0), 1);
        due("search", search("a"), 120);
    }

    private static void wordsBetweenTidies() {
        sentence("a WORD that none keeps is gone, and no other");
        enter("a b");
        enter("c");
        x().remove(0);
        due("tidy", x().tidy(), 96);
        enter("d e");
        due("tidy of nothing", x().tidy(), 0);
        due("WORDS", x().count(2), 3);
        finds("c", 1);
        finds("d e", 2);
        due("look c", look("c"), 1);
        due("look d", look("d"), 1);
    }

    /** Texts of 400 words for which 40000 bits are taken. */
    private static void fill() {
        enter("\n" + numbers(100, 133));
        enter("\n" + numbers(233, 133));
        enter("\n" + numbers(366, 134));
        enter("\n" + numbers(100, 130));
        enter("\n" + numbers(230, 130));
    }

    private static void fullAndFullAgain() {
        sentence("how many bits fewer are TAKEN, again and again on a full shelf");
        fill();
        int bits = x().count(4);
        for (int i = 0; i < 4; i++) {
            due("tidy", x().tidy(), 0);
        }
        due("TAKEN", x().count(3), 40000);
        due("bits", x().count(4), bits);
        bitsAre("230", gamma(1) + gamma(1) + gamma(643) + gamma(4) + gamma(1) + gamma(513));
        bitsAre("499", gamma(3) + gamma(1) + gamma(646));
        finds("100 near 1 101", 0, 3);
        sentence("POSTINGS are made anew without removed DOCUMENTS, all of them");
        fill();
        due("FULL", enter("\n499"), FULL);
        for (int i = 0; i < 5; i++) {
            x().remove(i);
        }
        due("FULL till tidy", enter("\n499"), FULL);
        due("tidy", x().tidy(), 40000);
        due("WORDS", x().count(2), 0);
        fill();
        due("DOCUMENTS ever", x().count(0), 10);
        due("TAKEN", x().count(3), 40000);
        bitsAre("230", gamma(6) + gamma(1) + gamma(643) + gamma(4) + gamma(1) + gamma(513));
        bitsAre("359", gamma(7) + gamma(1) + gamma(639) + gamma(3) + gamma(1) + gamma(642));
        finds("100 near 1 101", 5, 8);
        finds("358 near 1 359", 6, 9);
    }

    private static void chunksAre(int bits, int chunks, int taken) {
        fresh();
        growTo(bits);
        look("a");
        due("bits", x().posting(0), bits);
        due("CHUNKS of " + bits, x().posting(1), chunks);
        due("TAKEN of " + bits, x().count(3), taken);
        due("bits of all of " + bits, x().count(4), bits);
        due("last bit of " + bits, x().bit(bits - 1), 1);
        dueThrow("bit behind " + bits, () -> x().bit(bits));
        due("DOCUMENTS that keep it", x().posting(2), x().count(0));
    }

    // ---- term 2: room

    private static void roomEdges() {
        fourHundredWords();
        oneWordMore();
        fortyThousandBits();
        sixteenBitsMore();
        lastBitOfAChunk();
        refusedTextLeavesAll();
    }

    private static void fourHundredWords() {
        sentence("there would be more than 400 WORDS");
        enter(numbers(100, 133));
        enter(numbers(233, 133));
        due("401 WORDS", enter(numbers(366, 135)), FULL);
        due("WORDS", x().count(2), 266);
        due("400 WORDS", enter(numbers(366, 134)), 2);
        due("WORDS", x().count(2), 400);
        due("the last WORD", x().letter(399, 0), '4');
        dueThrow("letter(400, 0)", () -> x().letter(400, 0));
        due("one more", enter("x"), FULL);
        due("known ones alone", enter("100 499 300"), 3);
        due("an empty one", x().enter(), 4);
        due("a known one and one more", enter("100 x"), FULL);
        stop("x", true);
        due("a STOP WORD is none", enter("100 x"), 5);
        due("WORDS", x().count(2), 400);
    }

    private static void oneWordMore() {
        sentence("A DOCUMENT is refused when .. there would be more than 400 WORDS");
        enter(numbers(100, 133));
        enter(numbers(233, 133));
        enter(numbers(366, 133));
        due("WORDS", x().count(2), 399);
        due("two new ones", enter("x y"), FULL);
        due("two new ones, known ones between", enter("x 100 y"), FULL);
        due("look x", look("x"), 0);
        due("one new one, twice", enter("x 100 x"), 3);
        due("WORDS", x().count(2), 400);
        due("tidy of nothing", x().tidy(), 0);
        due("WORDS", x().count(2), 400);
        due("look x", look("x"), 1);
        x().remove(3);
        due("removed ones have WORDS till tidy", enter("y"), FULL);
        due("tidy", x().tidy(), 48);
        due("room again", enter("y"), 4);
        due("WORDS", x().count(2), 400);
    }

    private static void fortyThousandBits() {
        sentence("A DOCUMENT is refused when more than 40000 would be TAKEN behind it");
        // Once in a body a word has 25 bits at most, one CHUNK; twice 42 and more, two CHUNKS.
        enter("\n" + numbers(100, 133));
        enter("\n" + numbers(233, 133));
        enter("\n" + numbers(366, 133));
        enter("\n" + numbers(100, 130));
        enter("\n" + numbers(230, 130));
        due("TAKEN", x().count(3), 399 * 48 + 260 * 80);
        due("a known word's second CHUNK", enter("\n499 498"), FULL);
        due("39952 and 80", enter("\n490"), FULL);
        due("39952 and 48", enter("\nx"), 5);
        due("TAKEN", x().count(3), 40000);
        due("no CHUNK more", enter("100"), 6);
        due("an empty one", x().enter(), 7);
        due("a CHUNK more", enter("\n490"), FULL);
        due("TAKEN", x().count(3), 40000);
        x().remove(5);
        due("removed ones are TAKEN till tidy", enter("\ny"), FULL);
        due("tidy", x().tidy(), 48);
        due("room again", enter("\ny"), 8);
        due("TAKEN", x().count(3), 40000);
    }

    private static void sixteenBitsMore() {
        sentence("more than 40000 would be TAKEN");
        enter("\n" + numbers(100, 132));
        enter("\n" + numbers(232, 132));
        enter("\n" + numbers(364, 132));
        enter("\n" + numbers(100, 131));
        enter("\n" + numbers(231, 131));
        due("TAKEN", x().count(3), 39968);
        due("39968 and 48", enter("x"), FULL);
        due("TAKEN", x().count(3), 39968);
        due("WORDS", x().count(2), 396);
        due("look x", look("x"), 0);
    }

    /** Where 40000 are taken, a text fits as long as the chunks that are there have bits left. */
    private static void lastBitOfAChunk() {
        sentence("there are as many as it needs");
        enter("\n" + numbers(100, 133));
        enter("\n" + numbers(233, 133));
        enter("\n" + numbers(366, 133));
        enter("\n" + numbers(100, 130));
        enter("\n" + numbers(230, 130));
        enter("\nx");
        due("TAKEN", x().count(3), 40000);
        look("x");
        due("bits of x", x().posting(0), 25);
        due("8 more: 33", enter("100 x x"), FULL);
        due("8 more: 33", enter("x 100 x"), FULL);
        due("10 more: 35", enter("x x x x"), FULL);
        due("21 more: 46", enter("\nx"), FULL);
        look("x");
        due("bits of x", x().posting(0), 25);
        due("7 more: 32", enter("x x x"), 6);
        due("bits of x", x().posting(0), 32);
        due("CHUNKS of x", x().posting(1), 1);
        due("TAKEN", x().count(3), 40000);
        due("3 more: 35", enter("x"), FULL);
        due("an empty one", x().enter(), 7);
        due("100 and x", enter("100 x"), FULL);
        due("100 alone: x needs nothing", enter("100"), 8);
    }

    private static void refusedTextLeavesAll() {
        sentence("its number; FULL");
        enter("\n" + numbers(100, 133));
        enter("\n" + numbers(233, 133));
        enter("\n" + numbers(366, 133));
        enter("\n" + numbers(100, 130));
        enter("\n" + numbers(230, 130));
        int bits = x().count(4);
        due("FULL", enter("100 x\n490 491"), FULL);
        due("DOCUMENTS ever", x().count(0), 5);
        due("ON", x().count(1), 5);
        due("WORDS", x().count(2), 399);
        due("TAKEN", x().count(3), 39952);
        due("bits", x().count(4), bits);
        look("490");
        due("DOCUMENTS of 490", x().posting(2), 1);
        due("CHUNKS of 490", x().posting(1), 1);
        dueThrow("document(5, 0)", () -> x().document(5, 0));
        due("the next one", enter("\n100"), 5);
        due("it alone is there", look("100"), 3);
    }

    // ---- term 3: what a query is made of

    private static void lexemeEdges() {
        blanksAlone();
        bytesOfQueries();
        numbersOfNear();
        ints();
        keywords();
        bytesInQuotes();
        longQueries();
    }

    private static void blanksAlone() {
        sentence("Blanks (32, 10) between TOKENS, signs and numbers are nothing");
        enter("aa bb");
        x().mark(0, -5);
        fault("\n \n( \n)", SYNTAX, 6);
        finds(" \n aa \n ", 0);
        finds("\naa\nnear\n1\nbb\n", 0);
        finds("[ \n-5 \n.. \n-5 \n]", 0);
        finds("title \n: \naa \n*", 0);
        finds("(\naa\n)(\nbb\n)", 0);
        finds("(aa)(bb)[-5..0]\"aa\"\"bb\"aa*title:aa", 0);
        fault("aa\tbb", SYNTAX, 2);
        fault("aa\rbb", SYNTAX, 2);
        fault("aa\0bb", SYNTAX, 2);
        fault("aa\u00a0bb", SYNTAX, 2);
    }

    private static void bytesOfQueries() {
        sentence("the first byte of a TOKEN, number (its -) or sign with which no query goes on");
        for (int b = 0; b < 256; b++) {
            boolean blank = b == 32 || b == 10;
            boolean opens = b == '(' || b == '[' || b == 34;
            String alone = "" + (char) b;
            due("search of byte " + b, search(alone), inToken(b) ? 0 : blank || opens ? -1002 : -1001);
            int behind = inToken(b) || blank || b == '*' ? 0 : opens ? -1003 : -1002;
            fresh();
            due("search of a and byte " + b, search("a" + alone), behind);
        }
    }

    private static void numbersOfNear() {
        sentence("NUMBER: 1 to 3 digits");
        steps("a near 1 b", 1000, 1001, 5001);
        steps("a near 01 b", 1000, 1001, 5001);
        steps("a near 001 b", 1000, 1001, 5001);
        steps("a near 99 b", 1000, 1001, 5099);
        steps("a near 200 b", 1000, 1001, 5200);
        fault("a near 0001 b", SYNTAX, 7);
        fault("a near 1000 b", SYNTAX, 7);
        fault("a near b", SYNTAX, 7);
        fault("a near -1 b", SYNTAX, 7);
        fault("a near 1a b", SYNTAX, 7);
        fault("a near a1 b", SYNTAX, 7);
        fault("a near \"1\" b", SYNTAX, 7);
        fault("a near near 1 b", SYNTAX, 7);
        fault("a near", SYNTAX, 6);
        fault("a near 1b", SYNTAX, 7);
        fault("a near 1(b", SYNTAX, 10);
    }

    private static void ints() {
        sentence("INT: 1 to 9 digits, perhaps with - ahead (at once)");
        x().enter();
        finds("[0..0]", 0);
        finds("[-0..0]", 0);
        finds("[000000000..000000000]", 0);
        finds("[-000000000..000000009]", 0);
        finds("[-999999999..999999999]", 0);
        fault("[0000000000..1]", SYNTAX, 1);
        fault("[1000000000..1]", SYNTAX, 1);
        fault("[-1000000000..1]", SYNTAX, 1);
        fault("[0..0000000001]", SYNTAX, 4);
        fault("[0..1000000000]", SYNTAX, 4);
        fault("[0..-1000000000]", SYNTAX, 4);
        sentence("an INT that has no digit behind its - at this");
        fault("[-", SYNTAX, 1);
        fault("[-]", SYNTAX, 1);
        fault("[- 1..2]", SYNTAX, 1);
        fault("[-\n1..2]", SYNTAX, 1);
        fault("[--1..2]", SYNTAX, 1);
        fault("[-a..2]", SYNTAX, 1);
        fault("[-..2]", SYNTAX, 1);
        fault("[1..-", SYNTAX, 4);
        fault("[1..-]", SYNTAX, 4);
        fault("[1..- 2]", SYNTAX, 4);
        fault("[1.. -x]", SYNTAX, 5);
        sentence("A NUMBER or INT is a whole run of letters and digits; elsewhere such a run is a TOKEN");
        fault("[1a..2]", SYNTAX, 1);
        fault("[a1..2]", SYNTAX, 1);
        fault("[1..2b]", SYNTAX, 4);
        fault("[-1a..2]", SYNTAX, 1);
        fault("[or..2]", SYNTAX, 1);
        fault("[\"1\"..2]", SYNTAX, 1);
        enter("1 200 999999999999");
        finds("1", 0);
        finds("1 200 9999999999999", 0);
        finds("20*", 0);
        finds("1 near 1 200", 0);
        finds("\"1 200\"", 0);
    }

    private static void keywords() {
        sentence("or and not near (however great their letters) are TOKENS in quotes alone");
        enter("or and not near\ntitle body");
        for (String word : new String[] {"or", "OR", "oR", "and", "AND", "aNd", "near", "NEAR", "Near"}) {
            fault(word, SYNTAX, 0);
            finds("\"" + word + "\"", 0);
        }
        for (String word : new String[] {"not", "NOT", "nOt"}) {
            fault(word, SYNTAX, 3);
            finds("\"" + word + "\"", 0);
        }
        finds("\"Or And Not Near\"", 0);
        finds("or1 or orr or notx or nearr or andd");
        fault("or*", SYNTAX, 0);
        fault("title:near", SYNTAX, 6);
        sentence("title and body where no : comes next, too");
        enter("or and not near\ntitle body");
        finds("title", 0);
        finds("Title BODY", 0);
        finds("\"title body\"", 0);
        finds("\"title: body:\"", 0);
        finds("title*", 0);
        finds("title near 1 body", 0);
        finds("body:title", 0);
        finds("title:title");
        finds("body : body", 0);
        finds("BODY:title", 0);
        fault("title:", SYNTAX, 6);
        fault("title : ", SYNTAX, 8);
        fault("title*:a", SYNTAX, 6);
        fault("titles:a", SYNTAX, 6);
        fault("\"title\":a", SYNTAX, 7);
        fault("or:a", SYNTAX, 0);
        fault("title::a", SYNTAX, 6);
    }

    private static void bytesInQuotes() {
        sentence("In quotes all bytes but 34 that are in no TOKEN stand between");
        for (int b = 0; b < 256; b++) {
            fresh();
            enter("xa ya");
            int due = b == 34 ? -1008 : inToken(b) ? 0 : 1;
            due("search with byte " + b, search("\"xa" + (char) b + "ya\""), due);
        }
        sentence("the second QUOTE of a phrase without a TOKEN");
        fault("\"\"", SYNTAX, 1);
        fault("\" \"", SYNTAX, 2);
        fault("\"(*)\" a", SYNTAX, 4);
        fault("a \"\" b", SYNTAX, 3);
        fault("\"a\"\"\"", SYNTAX, 4);
        reads("\"a\"");
        reads("\"(a)\"");
    }

    private static void longQueries() {
        sentence("the length at the end");
        enter("a");
        finds("a" + " ".repeat(599), 0);
        finds(" ".repeat(599) + "a", 0);
        finds("\"" + " ".repeat(597) + "a\"", 0);
        finds("[" + " ".repeat(594) + "0..0]", 0);
        finds("a".repeat(600));
        fault(" ".repeat(600), SYNTAX, 600);
        fault("(" + " ".repeat(599), SYNTAX, 600);
        fault("\"" + "a".repeat(599), SYNTAX, 600);
        fault(" ".repeat(599) + ")", SYNTAX, 599);
        fault("a" + " ".repeat(598) + ")", SYNTAX, 599);
        fault(" ".repeat(598) + "\"\"", SYNTAX, 599);
        fault("  [2..1" + " ".repeat(593), RANGE, 6);
        fault("title:" + "(" + " ".repeat(591) + "a)", KIND, 0);
        fault(" ".repeat(592) + "title:()", SYNTAX, 599);
        fault(" ".repeat(591) + "title:(a)", KIND, 591);
    }

    // ---- term 3: faults

    private static void faultEdges() {
        syntaxFirstAndLast();
        rangeFirstAndLast();
        kindFirstAndLast();
        kindIsTold();
        twoFaults();
        leastNumber();
        behindAFault();
    }

    private static void syntaxFirstAndLast() {
        sentence("1 SYNTAX, at the first byte");
        for (String query : new String[] {"or", "and a", "near 1 a", ")", "]", "*", ":a", ".", "..", "-", "-1", "#"}) {
            fault(query, SYNTAX, 0);
        }
        sentence("1 SYNTAX, the length at the end");
        String[] open = {"", " ", "a or", "a or ", "a and", "not", "not not ", "a near", "a near 1", "(", "(a",
            "((a)", "(a or", "[", "[1", "[1 ", "[1..", "[1..2", "[-1..-1 ", "\"", "\"a", "\"a ", "title:",
            "title:body: ", "a title:", "a not", "a (", "a near 1 title:"};
        for (String query : open) {
            fault(query, SYNTAX, query.length());
        }
        sentence("with which no query goes on");
        fault("a )", SYNTAX, 2);
        fault("(a))", SYNTAX, 3);
        fault("()", SYNTAX, 1);
        fault("(a or)", SYNTAX, 5);
        fault("a or or b", SYNTAX, 5);
        fault("a or and b", SYNTAX, 5);
        fault("a and and b", SYNTAX, 6);
        fault("a and or b", SYNTAX, 6);
        fault("not or a", SYNTAX, 4);
        fault("not and a", SYNTAX, 4);
        fault("a near 1 not b", SYNTAX, 9);
        fault("a near 1 near 1 b", SYNTAX, 9);
        fault("a near 1 b near 1 c", SYNTAX, 11);
        fault("title:not a", SYNTAX, 6);
        fault("title:)", SYNTAX, 6);
        fault("a**", SYNTAX, 2);
        fault("(a)*", SYNTAX, 3);
        fault("\"a\" *", SYNTAX, 4);
        fault("[1..2]*", SYNTAX, 6);
        fault("[1 2]", SYNTAX, 3);
        fault("[1.2]", SYNTAX, 2);
        fault("[1. .2]", SYNTAX, 2);
        fault("[1...2]", SYNTAX, 4);
        fault("[1..2)", SYNTAX, 5);
        fault("[1..2 3]", SYNTAX, 6);
        fault("[..2]", SYNTAX, 1);
        fault("[1..]", SYNTAX, 4);
        fault("[]", SYNTAX, 1);
    }

    private static void rangeFirstAndLast() {
        sentence("2 RANGE: near of 0 or above 200");
        fault("a near 0 b", RANGE, 7);
        fault("a near 00 b", RANGE, 7);
        fault("a near 000 b", RANGE, 7);
        reads("a near 1 b");
        reads("a near 199 b");
        reads("a near 200 b");
        fault("a near 201 b", RANGE, 7);
        fault("a near 999 b", RANGE, 7);
        fault("a near 0", RANGE, 7);
        fault("a near 201", RANGE, 7);
        sentence("the second INT below the first (at it)");
        reads("[5..5]");
        reads("[4..5]");
        fault("[5..4]", RANGE, 4);
        fault("[5..4", RANGE, 4);
        fault("[0.. -1]", RANGE, 5);
        fault("[-4..-5]", RANGE, 5);
        reads("[-5..-4]");
        reads("[-5..-5]");
        fault("[999999999..-999999999]", RANGE, 12);
        fault("[999999999..999999998]", RANGE, 12);
        reads("[-0..0]");
        reads("[0..-0]");
    }

    private static void kindFirstAndLast() {
        sentence("4 KIND, .. title or body ahead of a unit that has no PLACES");
        fault("title:(a)", KIND, 0);
        fault("body:(a)", KIND, 0);
        fault("title:[1..2]", KIND, 0);
        fault("body : [1..2]", KIND, 0);
        fault("title:((a))", KIND, 0);
        fault("title:(a near 1 b)", KIND, 0);
        fault("a or not body:(a)", KIND, 9);
        fault("title:body:title:(a)", KIND, 11);
        reads("title:a");
        reads("title:a*");
        reads("title:\"a\"");
        reads("title:body:a");
        reads("title:a near 1 b");
        sentence("4 KIND, .. near over .. a unit that has no PLACES");
        fault("(a) near 1 b", KIND, 4);
        fault("(a) near 1 b*", KIND, 4);
        fault("(a) near 1 \"b\"", KIND, 4);
        fault("(a) near 1 (b)", KIND, 4);
        fault("(a) near 1 title:b", KIND, 4);
        fault("[1..2]near 1 b", KIND, 6);
        fault("a near 1 (b)", KIND, 2);
        fault("a near 1 [1..2]", KIND, 2);
        fault("a* near 1 (b)", KIND, 3);
        fault("\"a\"near 1 (b)", KIND, 3);
        reads("a near 1 b");
        reads("a* near 1 b*");
        reads("\"a\" near 1 \"b\"");
        reads("title:a near 1 body:b");
    }

    private static void kindIsTold() {
        sentence("as soon as what it stands over is whole");
        fault("title:(a) )", KIND, 0);
        fault("title:(a", SYNTAX, 8);
        fault("title:(a )", KIND, 0);
        fault("title:[1..2", SYNTAX, 11);
        fault("title:[2..1]", RANGE, 10);
        fault("(a) near", SYNTAX, 8);
        fault("(a) near b", SYNTAX, 9);
        fault("(a) near 0 b", RANGE, 9);
        fault("(a) near 1", SYNTAX, 10);
        fault("(a) near 1 )", SYNTAX, 11);
        fault("(a) near 1 \"\"", SYNTAX, 12);
        fault("(a) near 1 \"b\" )", KIND, 4);
        fault("(a) near 1 (b) )", KIND, 4);
        fault("(a) near 1 [1..2] )", KIND, 4);
        fault("a near 1 [1..2] )", KIND, 2);
        fault("a near 1 (b) )", KIND, 2);
        fault("(a) near 1 (title:(b))", KIND, 12);
        fault("(a) near 1 title:(b)", KIND, 11);
        sentence("a TOKEN is when it is seen that no * comes");
        fault("(a) near 1 b* )", KIND, 4);
        fault("(a) near 1 b*)", KIND, 4);
        fault("(a) near 1 b c )", KIND, 4);
        fault("(a) near 1 b or )", KIND, 4);
        fault("(a) near 1 b not", KIND, 4);
        fault("(a) near 1 b \"", KIND, 4);
        fault("(a) near 1 b [", KIND, 4);
        fault("(a) near 1 b (", KIND, 4);
        fault("(a) near 1 b title:", KIND, 4);
        fault("((a) near 1 b)", KIND, 5);
        fault("((a) near 1 b))", KIND, 5);
    }

    private static final String ROOM_FAULT = "(((((((((((((";

    /** One fault ahead of the other, and the other way round. */
    private static void twoFaults() {
        sentence("the first that is come to as the query is read from the left");
        fault(") [2..1]", SYNTAX, 0);
        fault("[2..1] )", RANGE, 4);
        fault("a or ) " + ROOM_FAULT, SYNTAX, 5);
        fault(ROOM_FAULT + " or )", ROOM, 12);
        fault(") title:(a)", SYNTAX, 0);
        fault("title:(a) )", KIND, 0);
        fault("[2..1] " + ROOM_FAULT, RANGE, 4);
        fault(ROOM_FAULT + " [2..1]", ROOM, 12);
        fault("[2..1] title:(a)", RANGE, 4);
        fault("title:(a) [2..1]", KIND, 0);
        fault(ROOM_FAULT + "title:(a)", ROOM, 12);
        fault("title:(a)" + ROOM_FAULT, KIND, 0);
        fault("a near 0 b [2..1]", RANGE, 7);
        fault("[2..1] a near 0 b", RANGE, 4);
        fault("a near 201 (b)", RANGE, 7);
        fault("a near 1 (b) near 0 c", KIND, 2);
        fault("title:[1..2] body:[1..2]", KIND, 0);
        fault("a ) b )", SYNTAX, 2);
        fault("title:" + ROOM_FAULT, ROOM, 18);
        fault("[2..1", RANGE, 4);
        fault("[2..1x]", SYNTAX, 4);
    }

    private static void leastNumber() {
        sentence("of one TOKEN or sign the least number");
        // 1000 is of more digits and above 200, 0000 of more and 0.
        fault("a near 1000 b", SYNTAX, 7);
        fault("a near 0000 b", SYNTAX, 7);
        fault("[1..-1234567890]", SYNTAX, 4);
        // At the sign that shows that no * comes, near is wrong, and so is the sign.
        fault("(a) near 1 b )", SYNTAX, 13);
        fault("(a) near 1 b near 1 c", SYNTAX, 13);
        fault("(a) near 1 b #", SYNTAX, 13);
        fault("((a) near 1 b", SYNTAX, 13);
        fault("a ".repeat(38) + "(a) near 1 b c", ROOM, 89);
        fault("a ".repeat(38) + "(a) near 1 b \"", ROOM, 89);
        fault("a ".repeat(38) + "(a) near 1 b )", SYNTAX, 89);
        fault("a ".repeat(37) + "(a) near 1 b c", KIND, 78);
        fault("(".repeat(11) + "(a) near 1 b (", KIND, 15);
        fault("(".repeat(12) + "[1..2] near 1 b (", ROOM, 28);
        // What can't stand there is no LEAF too many.
        fault("a ".repeat(40) + "near b", SYNTAX, 85);
        fault("a ".repeat(40) + "or or", SYNTAX, 83);
    }

    private static void behindAFault() {
        sentence("with a FAULT (then nothing is found, and there is no CODE)");
        enter("a");
        for (String query : new String[] {"a )", "a [2..1]", "a " + ROOM_FAULT, "a title:(a)"}) {
            finds("a", 0);
            due("search " + query, search(query) < 0, true);
            due("hit(0)", x().hit(0), NONE);
            due("code(0)", x().code(0), NONE);
            due("deepest()", x().deepest(), 0);
            dueThrow("rank(0, 0)", () -> x().rank(0, 0));
            dueThrow("rank(0, 3)", () -> x().rank(0, 3));
            dueThrow("hit(-1)", () -> x().hit(-1));
            dueThrow("code(-1)", () -> x().code(-1));
        }
        finds("a", 0);
    }

    // ---- term 3: the room that a query has

    private static void queryRoomEdges() {
        fortyLeaves();
        phraseTokens();
        twelveOpen();
        fortyNots();
        twelveSides();
    }

    private static void fortyLeaves() {
        sentence("the 41st LEAF (unit of the last three sorts; its first byte)");
        enter("a");
        finds("a ".repeat(40), 0);
        fault("a ".repeat(40) + "a", ROOM, 80);
        fault("a ".repeat(40) + "a*", ROOM, 80);
        fault("a ".repeat(40) + "\"a\"", ROOM, 80);
        fault("a ".repeat(40) + "\"\"", ROOM, 80);
        fault("a ".repeat(40) + "\"", ROOM, 80);
        fault("a ".repeat(40) + "[0..0]", ROOM, 80);
        fault("a ".repeat(40) + "[2..1]", ROOM, 80);
        fault("a ".repeat(40) + "[", ROOM, 80);
        fault("a ".repeat(40) + "or a", ROOM, 83);
        fault("a ".repeat(40) + "not a", ROOM, 84);
        fault("a ".repeat(40) + "near 1 a", ROOM, 87);
        fault("a ".repeat(40) + "title:a", ROOM, 86);
        fault("a ".repeat(40) + "(a)", ROOM, 81);
        fault("a ".repeat(40) + "a )", ROOM, 80);
        fresh();
        enter("a");
        finds("a*".repeat(40), 0);
        fault("a*".repeat(41), ROOM, 80);
        finds("\"a\"".repeat(40), 0);
        fault("\"a\"".repeat(41), ROOM, 120);
        finds("[0..0]".repeat(40), 0);
        fault("[0..0]".repeat(41), ROOM, 240);
        finds("(a)".repeat(40), 0);
        fault("(a)".repeat(41), ROOM, 121);
        finds("title:a ".repeat(40), 0);
        fault("title:a ".repeat(41), ROOM, 326);
        finds("a a*\"a\"[0..0]".repeat(10), 0);
        fault("a a*\"a\"[0..0]".repeat(10) + "a", ROOM, 130);
        finds("a near 1 a ".repeat(20), 0);
        fault("a near 1 a ".repeat(20) + "a", ROOM, 220);
    }

    private static void phraseTokens() {
        sentence("the 161st TOKEN in quotes in all");
        enter("a ".repeat(160));
        finds("\"" + "a ".repeat(160) + "\"", 0);
        fault("\"" + "a ".repeat(161) + "\"", ROOM, 321);
        fault("\"" + "a ".repeat(161), ROOM, 321);
        fault("\"" + "a ".repeat(160), SYNTAX, 321);
        finds("\"" + "a ".repeat(80) + "\"\"" + "a ".repeat(80) + "\"", 0);
        fault("\"" + "a ".repeat(80) + "\"\"" + "a ".repeat(81) + "\"", ROOM, 323);
        finds("\"" + "a ".repeat(160) + "\" a a*", 0);
        fault("\"" + "a ".repeat(160) + "\" \"a\"", ROOM, 324);
        fault("\"" + "a ".repeat(160) + "\" \"\"", SYNTAX, 324);
        stop("a", true);
        fault("\"" + "a ".repeat(161) + "\"", ROOM, 321);
        finds("\"" + "a ".repeat(160) + "\"");
    }

    private static void twelveOpen() {
        sentence("a ( within 12 that are not closed");
        enter("a");
        finds("(".repeat(12) + "a" + ")".repeat(12), 0);
        fault("(".repeat(13) + "a" + ")".repeat(13), ROOM, 12);
        fault("(".repeat(13), ROOM, 12);
        fault("(".repeat(12), SYNTAX, 12);
        finds("(".repeat(12) + "a)(a" + ")".repeat(12), 0);
        finds("(a)".repeat(20), 0);
        fault("(".repeat(12) + "a)((a" + ")".repeat(13), ROOM, 15);
        fault("(not ".repeat(13), ROOM, 60);
        finds("(not ".repeat(12) + "a" + ")".repeat(12), 0);
        fault("(".repeat(12) + "a" + ")".repeat(13), SYNTAX, 25);
        fault("(".repeat(12) + "a" + ")".repeat(11), SYNTAX, 24);
        fault("(".repeat(12) + "[2..1] (", RANGE, 16);
    }

    private static void fortyNots() {
        sentence("a not behind 40 others at once");
        enter("a");
        finds("not ".repeat(40) + "a", 0);
        finds("not ".repeat(39) + "a");
        fault("not ".repeat(41) + "a", ROOM, 160);
        fault("not ".repeat(41), ROOM, 160);
        fault("not ".repeat(40), SYNTAX, 160);
        fault("not ".repeat(42), ROOM, 160);
        finds("not ".repeat(40) + "a " + "not ".repeat(40) + "a", 0);
        finds("not ".repeat(40) + "(" + "not ".repeat(40) + "a)", 0);
        fault("not ".repeat(40) + "(" + "not ".repeat(41) + "a)", ROOM, 321);
        fault("a and " + "not ".repeat(41) + "a", ROOM, 166);
        finds("a or " + "not ".repeat(40) + "a", 0);
    }

    private static void twelveSides() {
        sentence("a title or body with its : behind 12 others at once");
        enter("a title\nbody");
        finds("title:".repeat(12) + "a", 0);
        fault("title:".repeat(13) + "a", ROOM, 72);
        fault("title:".repeat(13), ROOM, 72);
        fault("title:".repeat(12), SYNTAX, 72);
        fault("body:".repeat(13) + "a", ROOM, 60);
        fault("title:body:".repeat(6) + "title:a", ROOM, 66);
        reads("title:body:".repeat(6) + "a");
        finds("title:".repeat(12) + "title", 0);
        finds("body:".repeat(12) + "body", 0);
        fault("title:".repeat(12) + "(a)", KIND, 66);
        fault("title:".repeat(13) + "(a)", ROOM, 72);
        finds("title:".repeat(12) + "a near 1 " + "title:".repeat(12) + "title", 0);
        fault("title:".repeat(12) + "a " + "title:".repeat(13) + "a", ROOM, 146);
        fault("title:".repeat(12) + "(title:a)", KIND, 66);
    }

    // ---- term 3: leaves

    private static void leafEdges() {
        starts();
        phraseBorders();
        oneTextAfterTheOther();
        oneSearchAfterTheOther();
        phraseStopWords();
        stopWordAlone();
        marks();
        nearBorders();
        sides();
        nots();
    }

    private static void starts() {
        sentence("where a WORD stands that begins with its bytes (made small, the first 12, nothing else done)");
        enter("abcdefghijkl");
        enter("abcdefghijkm");
        enter("abc");
        enter("cities");
        enter("zzzzzzzzzzzz");
        enter("9");
        finds("abcdefghijkl*", 0);
        finds("abcdefghijklzz*", 0);
        finds("abcdefghijk*", 0, 1);
        finds("ABC*", 0, 1, 2);
        finds("abc *", 0, 1, 2);
        finds("abc\n*", 0, 1, 2);
        finds("abcd*", 0, 1);
        finds("abd*");
        finds("abb*");
        finds("cit*", 3);
        finds("city*", 3);
        finds("citi*");
        finds("cities*");
        finds("cities", 3);
        finds("z*", 4);
        finds("zzzzzzzzzzzz*", 4);
        finds("zzzzzzzzzzzzz*", 4);
        finds("9*", 5);
        finds("0*");
    }

    private static void phraseBorders() {
        sentence("where its WORDS stand one behind the other, all in the TITLE or all in the BODY");
        enter("a b\nc d");
        finds("\"a b\"", 0);
        finds("\"c d\"", 0);
        shownIs(0, 512);
        finds("\"b c\"");
        finds("\"a b c\"");
        finds("\"b a\"");
        finds("\"a\"", 0);
        finds("\"d\"", 0);
        finds("\"d e\"");
        finds("\"a a\"");
        fresh();
        enter("b ".repeat(299) + "c");
        finds("\"b c\"", 0);
        shownIs(0, 298);
        finds("\"c b\"");
        fresh();
        enter("\n" + "b ".repeat(299) + "c");
        finds("\"b c\"", 0);
        shownIs(0, 810);
    }

    private static void oneTextAfterTheOther() {
        sentence("a TOKEN alone MATCHES where its WORD stands");
        enter("x b");
        enter("a");
        // What stands in one text does not stand in the next one.
        finds("b or \"a b\"", 0);
        fresh();
        enter("a ".repeat(299) + "b");
        finds("a a b", 0);
        finds("a a a* \"a a\" \"a b\" b", 0);
        finds("a* a b near 1 a", 0);
        fresh();
        for (int i = 0; i < 120; i++) {
            enter("a");
        }
        for (int i = 0; i < 119; i++) {
            x().remove(i);
        }
        finds("a", 119);
    }

    private static void oneSearchAfterTheOther() {
        sentence("the latest search()");
        enter("b c");
        finds("b c", 0);
        enter("a");
        // Now b stands where c stood by bytes, but c is asked for no more.
        finds("b", 0);
        scoreIs(0, 75 * 6);
        finds("c", 0);
        scoreIs(0, 75 * 6);
        fresh();
        enter("b");
        enter("a a a");
        x().remove(1);
        finds("a");
        finds("a");
        finds("a or b", 0);
        scoreIs(0, 75 * 5);
        enter("a");
        finds("a", 2);
        look("a");
        due("DOCUMENTS ON", x().posting(2), 1);
        sentence("400 WORDS in one query");
        fill();
        finds("1* or 2* or 3* or 4*", 0, 1, 2, 3, 4);
        finds("4* or 3* or 2* or 1*", 0, 1, 2, 3, 4);
        finds("499", 2);
        finds("(1* or 2* or 3* or 4*) 499", 2);
        finds("4* 499 not 498");
        finds("100 not 4*", 0, 3);
    }

    private static void phraseStopWords() {
        sentence("wants nothing at its PLACE, not even that there is one");
        enter("a b\na b");
        enter("a the");
        enter("a");
        stop("the", true);
        finds("\"a the\"", 0, 1, 2);
        finds("\"a the the the\"", 0, 1, 2);
        finds("\"a the b\"");
        stop("q", true);
        finds("\"a b " + "q ".repeat(158) + "\"", 0);
        finds("\"q b " + "q ".repeat(157) + "b\"");
        sentence("but the first one's is 0 and more, of the BODY 512 and more");
        enter("a b\nc d");
        stop("the", true);
        finds("\"the b\"", 0);
        shownIs(0, 0);
        finds("\"the a\"");
        finds("\"the the b\"");
        finds("\"the d\"", 0);
        shownIs(0, 512);
        finds("\"the c\"");
        finds("\"the the d\"");
        finds("\"the a b\"");
        sentence("a TOKEN whose WORD is a STOP WORD now");
        enter("a the b");
        finds("\"a the b\"", 0);
        finds("\"a xx b\"");
        stop("xx", true);
        finds("\"a xx b\"", 0);
        stop("xx", false);
        finds("\"a xx b\"");
        stop("a", true);
        finds("\"a the b\"", 0);
        shownIs(0, 0);
        sentence("of STOP WORDS alone: nowhere");
        enter("a the b");
        stop("the", true);
        stop("a", true);
        finds("\"the\"");
        finds("\"a the\"");
        finds("\"a the a\"");
        finds("not \"a the\"", 0);
        finds("b", 0);
        finds("b \"the\"");
        finds("b not \"the a\"", 0);
        finds("b or \"a\"", 0);
        shownIs(0, 2);
    }

    private static void stopWordAlone() {
        sentence("A STOP WORD alone MATCHES nowhere");
        enter("the cat");
        finds("the", 0);
        stop("the", true);
        finds("the");
        finds("THES");
        finds("title:the");
        finds("the near 1 cat");
        finds("not the", 0);
        finds("cat not the", 0);
        finds("the*", 0);
        finds("th*", 0);
        stop("the", false);
        finds("the", 0);
    }

    private static void marks() {
        sentence("[a .. b]: DOCUMENTS with a MARK from a to b");
        for (int i = 0; i < 7; i++) {
            x().enter();
        }
        int[] marks = {-6, -5, 7, 8, MIN, MAX, 0};
        for (int i = 0; i < marks.length; i++) {
            x().mark(i, marks[i]);
        }
        finds("[-5..7]", 1, 2, 6);
        finds("[-6..8]", 0, 1, 2, 3, 6);
        finds("[-4..6]", 6);
        finds("[7..7]", 2);
        finds("[-999999999..999999999]", 0, 1, 2, 3, 6);
        finds("not [-999999999..999999999]", 4, 5);
        x().mark(4, -999999999);
        x().mark(5, 999999999);
        finds("[-999999999..-999999999]", 4);
        finds("[999999999..999999999]", 5);
        x().mark(4, -1000000000);
        x().mark(5, 1000000000);
        finds("[-999999999..999999999]", 0, 1, 2, 3, 6);
        x().remove(2);
        finds("[7..8]", 3);
    }

    private static void nearBorders() {
        sentence("both in the TITLE or both in the BODY, at most n from one another (also the same one)");
        enter("a b b c");
        finds("a near 3 c", 0);
        finds("a near 2 c");
        finds("c near 3 a", 0);
        finds("c near 2 a");
        finds("a near 1 a", 0);
        finds("a* near 1 \"a b\"", 0);
        fresh();
        enter("\na b b c");
        finds("a near 3 c", 0);
        finds("a near 2 c");
        finds("c near 3 a", 0);
        finds("c near 2 a");
        fresh();
        enter("a a b");
        enter("b a a");
        enter("\na a b a a");
        enter("a a x b");
        finds("a near 1 b", 0, 1, 2);
        finds("b near 1 a", 0, 1, 2);
        finds("a near 2 b", 0, 1, 2, 3);
        fresh();
        enter("a " + "b ".repeat(199) + "c");
        finds("a near 200 c", 0);
        finds("c near 200 a", 0);
        finds("a near 199 c");
        fresh();
        enter("\na " + "b ".repeat(200) + "c");
        finds("a near 200 c");
        finds("c near 200 a");
        finds("b near 200 c", 0);
        fresh();
        // The last place of the title and the first of the body are 213 from one another.
        enter("b ".repeat(298) + "a\nc");
        finds("a near 200 c");
        finds("c near 200 a");
        finds("a near 200 b", 0);
        fresh();
        enter("a\nb");
        enter("a\nb a");
        enter("b a\nb");
        finds("a near 200 b", 1, 2);
        finds("title:a near 1 b", 2);
        finds("body:a near 1 b", 1);
        finds("title:a near 200 body:b");
        finds("not a near 200 b", 0);
    }

    private static void sides() {
        sentence("title: / body: of a unit with PLACES ..: those in the TITLE, BODY");
        enter("a\nb");
        enter("b\na");
        finds("title:a", 0);
        finds("body:a", 1);
        finds("title:body:a");
        finds("body:title:a");
        finds("title:title:a", 0);
        finds("body:body:a*", 1);
        finds("title:\"a\"", 0);
        finds("body:\"a\"", 1);
        finds("title:a or body:a", 0, 1);
        fresh();
        enter("b ".repeat(299) + "a");
        enter("\n" + "b ".repeat(299) + "a");
        finds("title:a", 0);
        finds("body:a", 1);
        fresh();
        // A phrase that a STOP WORD begins is at the place of this.
        enter("\nx a");
        stop("the", true);
        finds("body:\"the a\"", 0);
        finds("title:\"the a\"");
    }

    private static void nots() {
        sentence("not: those ON the shelf that aren't");
        finds("not a");
        enter("a");
        enter("b");
        enter("c");
        finds("not a", 1, 2);
        finds("not not a", 0);
        finds("not not not a", 1, 2);
        finds("not (not a)", 0);
        finds("not zz", 0, 1, 2);
        finds("a or not a", 0, 1, 2);
        finds("a not a");
        x().remove(1);
        finds("not a", 2);
        finds("not zz", 0, 2);
        x().remove(0);
        x().remove(2);
        finds("not zz");
        finds("not (not zz)");
    }

    // ---- term 3, promises 18, 19: the code

    private static void codeEdges() {
        sentence("Two nots ahead of one another are none");
        steps("not a", 1000, 10000);
        steps("not not a", 1000);
        steps("not not not a", 1000, 10000);
        steps("not ".repeat(40) + "a", 1000);
        steps("not ".repeat(39) + "a", 1000, 10000);
        steps("not (not a)", 1000, 10000, 10000);
        sentence("In an all, from the second nots on, one with not left is made without it, and joined by less");
        steps("a not b", 1000, 1001, 11000);
        steps("a and not b", 1000, 1001, 11000);
        steps("a not not b", 1000, 1001, 8000);
        steps("a and not not not b", 1000, 1001, 11000);
        steps("not a not b not c", 1000, 10000, 1001, 11000, 1002, 11000);
        steps("a or not b", 1000, 1001, 10000, 9000);
        steps("a or not b not c", 1000, 1001, 10000, 1002, 11000, 9000);
        steps("a (not b)", 1000, 1001, 10000, 8000);
        steps("a not b near 200 c", 1000, 1001, 1002, 5200, 11000);
        sentence("A left not: 10 behind its unit (or near)");
        steps("not a near 7 b", 1000, 1001, 5007, 10000);
        steps("not title:a", 1000, 6000, 10000);
        steps("not [1..2]", 4000, 10000);
        sentence("CODE, as parts become whole");
        steps("title:body:a near 1 body:title:\"b\"", 1000, 7000, 6000, 3001, 6000, 7000, 5001);
        steps("a b or c d*", 1000, 1001, 8000, 1002, 2003, 8000, 9000);
        steps("(a or [1..2]) \"c\"", 1000, 4001, 9000, 3002, 8000);
        longestCodes();
        deepestStacks();
    }

    private static void longestCodes() {
        sentence("1000 times what it does, and which LEAF");
        search("a ".repeat(40));
        due("the first LEAF", x().code(0), 1000);
        due("the last LEAF", x().code(77), 1039);
        due("the last step", x().code(78), 8000);
        due("behind it", x().code(79), NONE);
        search("a or ".repeat(39) + "[1..2]");
        due("the last LEAF", x().code(77), 4039);
        due("the last step", x().code(78), 9000);
        due("behind it", x().code(79), NONE);
        search(("(not title:title:a)").repeat(31));
        // The first has four steps, each other one five, with the joint.
        due("the last LEAF", x().code(149), 1030);
        due("its inner title", x().code(150), 6000);
        due("its outer title", x().code(151), 6000);
        due("its not", x().code(152), 10000);
        due("the last step", x().code(153), 8000);
        due("behind it", x().code(154), NONE);
    }

    private static void deepestStacks() {
        sentence("How many numbers the stack of that CODE holds at most");
        due("ahead of any search", x().deepest(), 0);
        search("[1..2]");
        due("one LEAF", x().deepest(), 1);
        search("not not not title:a");
        due("one LEAF", x().deepest(), 1);
        search("a ".repeat(40));
        due("one all", x().deepest(), 2);
        search("a or ".repeat(39) + "a");
        due("one query", x().deepest(), 2);
        search("(a)(a a)(a)");
        due("a closed one", x().deepest(), 3);
        search("a(".repeat(12) + "a" + ")".repeat(12));
        due("twelve open", x().deepest(), 13);
        search("a or a(".repeat(12) + "a or a a near 2 a" + ")".repeat(12));
        due("most of all", x().deepest(), 28);
        search("a");
        due("that of the latest search", x().deepest(), 1);
        search("a(a(a");
        due("with a FAULT", x().deepest(), 0);
    }

    // ---- term 4, promise 17: ranks

    private static void rankEdges() {
        weights();
        startWeights();
        rarities();
        leavesUnderNot();
        order();
        shownWindow();
        shownPlaces();
    }

    private static void weights() {
        sentence("100 f / (f + 1 + LENGTH / 8) times I(16 n / d), divisions cut, from the left");
        enter("a b b b b b b");
        enter("a b b b b b b b");
        enter("\na b b b b b b");
        enter("\na b b b b b b b b b b b b b b");
        enter("\na b b b b b b b b b b b b b b b");
        search("a");
        // Five of five: I(16) is 5. LENGTH 7, 8, 7, 15, 16.
        due("first", x().rank(0, 0), 0);
        scoreIs(0, 300 / 4 * 5);
        scoreIs(1, 300 / 5 * 5);
        scoreIs(2, 100 / 2 * 5);
        scoreIs(3, 33 * 5);
        scoreIs(4, 25 * 5);
        sentence("f = PLACES in the BODY and 3 times those in the TITLE");
        enter("a a\na a a");
        search("a");
        // f 9, LENGTH 5.
        scoreIs(0, 90 * 5);
        search("title:a");
        scoreIs(0, 600 / 7 * 5);
        search("body:a");
        scoreIs(0, 300 / 4 * 5);
        search("\"a a\"");
        // f 3 and 2.
        scoreIs(0, 500 / 6 * 5);
        sentence("0 for f = 0");
        enter("a");
        enter("b");
        search("a or b or zz");
        // One of two: I(32) is 6.
        scoreIs(0, 75 * 6);
        scoreIs(1, 75 * 6);
        search("[0..0]");
        scoreIs(0, 0);
        search("not zz");
        scoreIs(1, 0);
        fresh();
        enter("a ".repeat(300));
        search("a");
        // f 900, LENGTH 300: 90000 / 938.
        scoreIs(0, 95 * 5);
        search("a ".repeat(40));
        scoreIs(0, 40 * 95 * 5);
    }

    /** Of so many documents on the shelf so many have a: what a title of a alone scores. */
    private static void rarityIs(int on, int having, int digits) {
        fresh();
        for (int i = 0; i < having; i++) {
            enter("a");
        }
        enterEmpty(on - having);
        due("found of " + on, search("a"), having);
        scoreIs(0, 75 * digits);
        scoreIs(having - 1, 75 * digits);
    }

    private static void startWeights() {
        sentence("WEIGHT, for a DOCUMENT, of a LEAF with PLACES");
        enter("aa ab\nac x");
        search("a*");
        // f 3 and 3 and 1, LENGTH 4.
        scoreIs(0, 700 / 8 * 5);
        shownIs(0, 0);
        search("title:a*");
        scoreIs(0, 600 / 7 * 5);
        search("x or not a*");
        scoreIs(0, 100 / 2 * 5);
        shownIs(0, 513);
        search("x* not zz*");
        scoreIs(0, 100 / 2 * 5);
        search("\"aa\" or \"ab\"");
        scoreIs(0, 2 * (300 / 4) * 5);
        search("a* x*");
        scoreIs(0, 700 / 8 * 5 + 100 / 2 * 5);
    }

    private static void rarities() {
        sentence("I(x) = how many binary digits x has");
        rarityIs(1, 1, 5);
        rarityIs(2, 1, 6);
        rarityIs(3, 1, 6);
        rarityIs(4, 1, 7);
        rarityIs(63, 1, 10);
        rarityIs(64, 1, 11);
        rarityIs(120, 1, 11);
        rarityIs(120, 119, 5);
        rarityIs(120, 120, 5);
        rarityIs(31, 16, 5);
        rarityIs(32, 16, 6);
        // 16 times 5 by 3 is 26, 16 times 6 by 3 is 32, 16 times 13 by 7 is 29, 14 by 7: 32.
        rarityIs(5, 3, 5);
        rarityIs(6, 3, 6);
        rarityIs(13, 7, 5);
        rarityIs(14, 7, 6);
        sentence("d = how many DOCUMENTS ON the shelf MATCH it so; n = how many are ON");
        enter("a");
        enter("a");
        enter("\na");
        enter("a");
        x().remove(1);
        search("a");
        // Three of three.
        scoreIs(0, 75 * 5);
        search("body:a");
        // One of three: I(48).
        scoreIs(0, 50 * 6);
        search("title:a");
        // Two of three: I(24).
        scoreIs(0, 75 * 5);
        x().remove(0);
        scoreIs(0, 75 * 5);
        search("title:a");
        // One of two: I(32).
        scoreIs(0, 75 * 6);
    }

    private static void leavesUnderNot() {
        sentence("stands under no not (also not one further out; two nots at once are none)");
        enter("a b c");
        int one = 75 * 5;
        search("a");
        scoreIs(0, one);
        search("a not zz");
        scoreIs(0, one);
        search("a or not b");
        scoreIs(0, one);
        search("not not a");
        scoreIs(0, one);
        shownIs(0, 0);
        search("not (not a)");
        scoreIs(0, 0);
        shownIs(0, NONE);
        search("not (zz or not b)");
        scoreIs(0, 0);
        shownIs(0, NONE);
        search("not not (a not not b)");
        scoreIs(0, 2 * one);
        search("a not (zz not not c)");
        scoreIs(0, one);
        search("b not (zz c) a");
        scoreIs(0, 2 * one);
        shownIs(0, 0);
        search("a or not b near 1 c");
        scoreIs(0, one);
        search("a near 1 b");
        scoreIs(0, 2 * one);
        search("not not a near 1 b");
        scoreIs(0, 2 * one);
        search("a or zz near 1 b");
        scoreIs(0, 2 * one);
    }

    private static void order() {
        sentence("RANK: by SCORE, the greatest first, then by number");
        enter("\na");
        enter("a");
        enter("\na");
        enter("a");
        enter("b");
        finds("a", 0, 1, 2, 3);
        int[] ranked = {1, 3, 0, 2};
        for (int i = 0; i < 4; i++) {
            due("rank(" + i + ", 0)", x().rank(i, 0), ranked[i]);
        }
        finds("not zz", 0, 1, 2, 3, 4);
        for (int i = 0; i < 5; i++) {
            due("equal: rank(" + i + ", 0)", x().rank(i, 0), i);
        }
        fresh();
        for (int i = 0; i < 120; i++) {
            x().enter();
        }
        due("search of 120", search("not zz"), 120);
        due("the last hit", x().hit(119), 119);
        due("behind it", x().hit(120), NONE);
        due("the last by RANK", x().rank(119, 0), 119);
        dueThrow("rank(120, 0)", () -> x().rank(120, 0));
    }

    private static void shownWindow() {
        sentence("that p for which most of them are p .. p + 9");
        // Places 0, 20 and 29: nine between count, ten don't.
        enter("a " + "b ".repeat(19) + "a " + "b ".repeat(8) + "a");
        search("a");
        shownIs(0, 20);
        fresh();
        enter("a " + "b ".repeat(19) + "a " + "b ".repeat(9) + "a");
        search("a");
        shownIs(0, 0);
        fresh();
        enter("c\n" + "b ".repeat(20) + "a " + "b ".repeat(8) + "a");
        search("a or c");
        shownIs(0, 532);
        fresh();
        enter("c\n" + "b ".repeat(20) + "a " + "b ".repeat(9) + "a");
        search("a or c");
        shownIs(0, 0);
        shownAllOver();
    }

    /** One place, and further on two that are so many from one another. */
    private static void shownFor(String text, int first, int apart, int shown) {
        fresh();
        enter(text + "a " + "b ".repeat(first - 1) + "a " + "b ".repeat(apart - 1) + "a");
        search("a");
        shownIs(0, shown);
    }

    private static void shownAllOver() {
        sentence("p .. p + 9, wherever p is");
        for (int first = 10; first <= 70; first++) {
            shownFor("", first, 9, first);
            shownFor("", first, 10, 0);
            shownFor("b ".repeat(first), 20, 9, first + 20);
            shownFor("b ".repeat(first), 20, 10, first);
        }
        for (int first = 279; first <= 288; first++) {
            shownFor("", first, 9, first);
            shownFor("", first, 10, 0);
            shownFor("\n", first, 9, 512 + first);
            shownFor("\n", first, 10, 512);
        }
    }

    private static void shownPlaces() {
        sentence("(each PLACE once), the least of several; NONE without any");
        enter("a b\nb b a");
        search("a");
        shownIs(0, 0);
        search("a a a*");
        shownIs(0, 0);
        search("a or body:a");
        shownIs(0, 0);
        search("a b");
        shownIs(0, 512);
        search("title:a b*");
        shownIs(0, 0);
        search("title:a body:b body:a");
        shownIs(0, 512);
        search("title:a body:a");
        shownIs(0, 0);
        search("body:a");
        shownIs(0, 514);
        search("\"b b\"");
        shownIs(0, 512);
        search("[0..0]");
        shownIs(0, NONE);
        search("not zz");
        shownIs(0, NONE);
        search("[0..0] or zz");
        shownIs(0, NONE);
        fresh();
        enter("\n" + "b ".repeat(299) + "a");
        search("a");
        shownIs(0, 811);
        search("a or b");
        shownIs(0, 512);
    }

    // ---- the calls: indices and what is refused

    private static void callEdges() {
        newObjects();
        removes();
        documentIndices();
        lookedWords();
        bitIndices();
        countWhats();
        letterIndices();
        hitIndices();
        rankIndices();
        codeIndices();
        nearestDistances();
        nearestOfSeveral();
        likeIndices();
        likeSums();
    }

    private static void newObjects() {
        sentence("An empty shelf, no STOP WORDS");
        for (int what = 0; what <= 6; what++) {
            due("count(" + what + ")", x().count(what), 0);
        }
        due("tidy()", x().tidy(), 0);
        due("remove(0)", x().remove(0), false);
        due("mark(0, 1)", x().mark(0, 1), false);
        due("hit(0)", x().hit(0), NONE);
        due("code(0)", x().code(0), NONE);
        due("deepest()", x().deepest(), 0);
        dueThrow("document(0, 0)", () -> x().document(0, 0));
        dueThrow("bit(0)", () -> x().bit(0));
        dueThrow("letter(0, 0)", () -> x().letter(0, 0));
        dueThrow("rank(0, 0)", () -> x().rank(0, 0));
        dueThrow("like(0)", () -> x().like(0));
        finds("a");
        finds("not a");
        due("nearest", nearest("a"), NONE);
        GammaShelf other = shelf;
        enter("a");
        fresh();
        due("objects have nothing in common", x().count(0), 0);
        due("the other one", other.count(0), 1);
    }

    private static void removes() {
        sentence("true; false when it isn't ON it");
        enter("a");
        enter("a");
        for (int number : new int[] {-1, 2, 119, 120, MIN, MAX}) {
            due("remove(" + number + ")", x().remove(number), false);
            due("mark(" + number + ", 1)", x().mark(number, 1), false);
        }
        due("ON", x().count(1), 2);
        due("mark(1, 3)", x().mark(1, 3), true);
        due("remove(1)", x().remove(1), true);
        due("remove(1) again", x().remove(1), false);
        due("mark(1, 4)", x().mark(1, 4), false);
        due("MARK stays", x().document(1, 2), 3);
        due("ON", x().count(1), 1);
        x().tidy();
        due("remove(1) behind tidy", x().remove(1), false);
        due("remove(0)", x().remove(0), true);
        due("remove(0) again", x().remove(0), false);
        due("ON", x().count(1), 0);
        due("the next one", enter("a"), 2);
        due("remove(2)", x().remove(2), true);
    }

    private static void documentIndices() {
        sentence("IndexOutOfBoundsException when there is none such. NONE for another what.");
        dueThrow("document(0, 0) of none", () -> x().document(0, 0));
        enterEmpty(119);
        dueThrow("document(119, 0) of 119", () -> x().document(119, 0));
        enter("a a b");
        due("document(119, 0)", x().document(119, 0), 1);
        due("document(119, 1)", x().document(119, 1), 3);
        due("document(119, 2)", x().document(119, 2), 0);
        due("document(119, 3)", x().document(119, 3), 2);
        due("document(119, 4)", x().document(119, 4), NONE);
        due("document(119, -1)", x().document(119, -1), NONE);
        due("document(119, MIN)", x().document(119, MIN), NONE);
        due("document(119, MAX)", x().document(119, MAX), NONE);
        due("document(0, 0)", x().document(0, 0), 1);
        for (int number : new int[] {-1, 120, 121, MIN, MAX}) {
            for (int what = -1; what <= 4; what++) {
                int asked = what;
                dueThrow("document(" + number + ", " + what + ")", () -> x().document(number, asked));
            }
        }
        x().mark(119, 9);
        x().remove(119);
        due("removed: 0", x().document(119, 0), 0);
        due("removed: 1", x().document(119, 1), 3);
        due("removed: 2", x().document(119, 2), 9);
        due("removed: 3", x().document(119, 3), 2);
        due("removed: 4", x().document(119, 4), NONE);
        x().tidy();
        due("behind tidy: 0", x().document(119, 0), 0);
        due("behind tidy: 1", x().document(119, 1), 3);
        due("behind tidy: 2", x().document(119, 2), 9);
    }

    private static void lookedWords() {
        sentence("NONE for another what, or ahead of any look()");
        enter("a");
        for (int what = -1; what <= 5; what++) {
            due("posting(" + what + ") ahead of any", x().posting(what), NONE);
        }
        due("nearest() that is NONE", nearest("zzzz"), NONE);
        due("posting(0) is ahead of any still", x().posting(0), NONE);
        due("nearest()", nearest("b"), 1);
        due("posting(0) of the nearest", x().posting(0), 3);
        fresh();
        enter("ab b");
        look("b");
        due("posting(-1)", x().posting(-1), NONE);
        due("posting(5)", x().posting(5), NONE);
        due("posting(MIN)", x().posting(MIN), NONE);
        due("posting(MAX)", x().posting(MAX), NONE);
        due("posting(4)", x().posting(4), 1);
        sentence("0 when there is none such (no TOKEN, or in no POSTING)");
        enter("m");
        for (String text : new String[] {"", "?!", "a", "z"}) {
            due("look " + text, look(text), 0);
            for (int what = 0; what <= 4; what++) {
                due("posting(" + what + ") of " + text, x().posting(what), 0);
            }
            due("posting(5) of " + text, x().posting(5), NONE);
            due("posting(-1) of " + text, x().posting(-1), NONE);
        }
        sentence("Of the WORD of the latest look(), as it is now");
        look("b");
        due("in no POSTING yet", x().posting(0), 0);
        enter("a b b");
        due("there now", x().posting(0), 1 + 3 + 3 + 1);
        enter("b");
        due("DOCUMENTS ON", x().posting(2), 2);
        due("PLACES", x().posting(3), 3);
        x().remove(0);
        due("bits stay", x().posting(0), 11);
        due("DOCUMENTS ON", x().posting(2), 1);
        due("PLACES", x().posting(3), 1);
        due("WORDS ahead", x().posting(4), 1);
        x().tidy();
        due("WORDS ahead", x().posting(4), 0);
        due("bits", x().posting(0), 5);
        x().remove(1);
        due("DOCUMENTS ON", x().posting(2), 0);
        due("PLACES", x().posting(3), 0);
        due("bits", x().posting(0), 5);
        x().tidy();
        due("gone", x().posting(0), 0);
        due("gone", x().posting(1), 0);
        dueThrow("bit(0) of what is gone", () -> x().bit(0));
        sentence("how many WORDS stand ahead of it, by bytes (those that it begins with are ahead)");
        enter("abc ab a abcd b 9 aba abd");
        String[] sorted = {"9", "a", "ab", "aba", "abc", "abcd", "abd", "b"};
        for (int i = 0; i < sorted.length; i++) {
            look(sorted[i]);
            due("posting(4) of " + sorted[i], x().posting(4), i);
        }
    }

    private static void bitIndices() {
        sentence("Bit i of that POSTING. IndexOutOfBoundsException when there is none such.");
        dueThrow("bit(0) ahead of any look", () -> x().bit(0));
        enter("b a");
        dueThrow("bit(0) ahead of any look", () -> x().bit(0));
        look("a");
        String bits = "1" + "1" + "010";
        for (int i = 0; i < bits.length(); i++) {
            due("bit(" + i + ")", x().bit(i), bits.charAt(i) - '0');
        }
        for (int i : new int[] {-1, 5, 6, 31, 32, MIN, MAX}) {
            dueThrow("bit(" + i + ")", () -> x().bit(i));
        }
        look("none");
        dueThrow("bit(0) in no POSTING", () -> x().bit(0));
        look("?");
        dueThrow("bit(0) without a TOKEN", () -> x().bit(0));
        nearest("aa");
        due("bit(2) of the nearest", x().bit(2), 0);
        enter("a");
        due("bit(7) as it is now", x().bit(7), 1);
        dueThrow("bit(8)", () -> x().bit(8));
    }

    private static void countWhats() {
        sentence("NONE for another what");
        enter("a");
        tape("xyz");
        int[] wanted = {1, 1, 1, 48, 3, 0, 3};
        for (int what = 0; what <= 6; what++) {
            due("count(" + what + ")", x().count(what), wanted[what]);
        }
        for (int what : new int[] {-1, 7, 8, MIN, MAX}) {
            due("count(" + what + ")", x().count(what), NONE);
        }
    }

    private static void letterIndices() {
        sentence("IndexOutOfBoundsException when there is no such WORD, or i is below 0");
        dueThrow("letter(0, 0) of none", () -> x().letter(0, 0));
        enter("abcdefghijkl 0 z");
        due("letter(0, 0)", x().letter(0, 0), '0');
        due("letter(0, 1)", x().letter(0, 1), 0);
        due("letter(1, 11)", x().letter(1, 11), 'l');
        due("letter(1, 12)", x().letter(1, 12), 0);
        due("letter(1, 13)", x().letter(1, 13), 0);
        due("letter(1, MAX)", x().letter(1, MAX), 0);
        due("letter(2, 0)", x().letter(2, 0), 'z');
        for (int k : new int[] {-1, 3, 4, 399, 400, MIN, MAX}) {
            dueThrow("letter(" + k + ", 0)", () -> x().letter(k, 0));
        }
        dueThrow("letter(0, -1)", () -> x().letter(0, -1));
        dueThrow("letter(2, MIN)", () -> x().letter(2, MIN));
        dueThrow("letter(3, -1)", () -> x().letter(3, -1));
        x().remove(0);
        due("till tidy", x().letter(2, 0), 'z');
        x().tidy();
        dueThrow("letter(0, 0) behind tidy", () -> x().letter(0, 0));
    }

    private static void hitIndices() {
        sentence("NONE behind the last. IndexOutOfBoundsException when i is below 0.");
        dueThrow("hit(-1) ahead of any search", () -> x().hit(-1));
        due("hit(0) ahead of any search", x().hit(0), NONE);
        enter("a");
        enter("b");
        enter("a");
        search("a");
        due("hit(0)", x().hit(0), 0);
        due("hit(1)", x().hit(1), 2);
        due("hit(2)", x().hit(2), NONE);
        due("hit(119)", x().hit(119), NONE);
        due("hit(120)", x().hit(120), NONE);
        due("hit(MAX)", x().hit(MAX), NONE);
        dueThrow("hit(-1)", () -> x().hit(-1));
        dueThrow("hit(MIN)", () -> x().hit(MIN));
        x().remove(0);
        x().tidy();
        enter("a");
        due("that the latest search() found", x().hit(0), 0);
        due("hit(2)", x().hit(2), NONE);
        search("zz");
        due("hit(0) of nothing", x().hit(0), NONE);
        dueThrow("hit(-1) of nothing", () -> x().hit(-1));
    }

    private static void rankIndices() {
        sentence("IndexOutOfBoundsException when there is none such; NONE for another what");
        dueThrow("rank(0, 0) ahead of any search", () -> x().rank(0, 0));
        dueThrow("rank(0, 3) ahead of any search", () -> x().rank(0, 3));
        enter("\na");
        enter("a");
        search("a");
        due("rank(0, 0)", x().rank(0, 0), 1);
        due("rank(1, 0)", x().rank(1, 0), 0);
        scoreIs(1, 50 * 5);
        shownIs(1, 512);
        for (int what : new int[] {-1, 3, MIN, MAX}) {
            due("rank(1, " + what + ")", x().rank(1, what), NONE);
        }
        for (int i : new int[] {-1, 2, 119, 120, MIN, MAX}) {
            for (int what = -1; what <= 3; what++) {
                int asked = what;
                dueThrow("rank(" + i + ", " + what + ")", () -> x().rank(i, asked));
            }
        }
        search("zz");
        dueThrow("rank(0, 0) of nothing", () -> x().rank(0, 0));
        sentence("as things were then");
        enter("\na");
        enter("a");
        search("a");
        x().remove(1);
        x().tidy();
        enter("a\na a a");
        stop("a", true);
        due("rank(0, 0)", x().rank(0, 0), 1);
        scoreIs(0, 75 * 5);
        shownIs(0, 0);
        due("rank(1, 0)", x().rank(1, 0), 0);
        dueThrow("rank(2, 0)", () -> x().rank(2, 0));
    }

    private static void codeIndices() {
        sentence("Step i of the CODE ..; NONE behind the last. IndexOutOfBoundsException when i is below 0.");
        dueThrow("code(-1) ahead of any search", () -> x().code(-1));
        due("code(0) ahead of any search", x().code(0), NONE);
        search("a near 200 b");
        due("code(0)", x().code(0), 1000);
        due("code(2)", x().code(2), 5200);
        due("code(3)", x().code(3), NONE);
        due("code(MAX)", x().code(MAX), NONE);
        dueThrow("code(-1)", () -> x().code(-1));
        dueThrow("code(MIN)", () -> x().code(MIN));
        search("a");
        due("code(1) of the latest", x().code(1), NONE);
        search("");
        due("code(0) with a FAULT", x().code(0), NONE);
        dueThrow("code(-1) with a FAULT", () -> x().code(-1));
    }

    private static void nearestDistances() {
        sentence("so few bytes must be put in, taken out, or be others; 0 to 2: how far; NONE if there is none so near");
        enter("house");
        due("the same", nearest("HOUSE"), 0);
        due("one put in", nearest("hous1e"), 1);
        due("two put in", nearest("xhousey"), 2);
        due("three put in", nearest("xxhousey"), NONE);
        due("one taken out", nearest("ouse"), 1);
        due("two taken out", nearest("hue"), 2);
        due("three taken out", nearest("he"), NONE);
        due("one other", nearest("mouse"), 1);
        due("two others", nearest("moure"), 2);
        due("three others", nearest("mourt"), NONE);
        due("two that change places", nearest("huose"), 2);
        due("one put in, one taken out", nearest("ousey"), 2);
        due("one of each", nearest("oxseyy"), NONE);
        fresh();
        enter("a");
        due("one byte other", nearest("b"), 1);
        due("one byte other, one more", nearest("bc"), 2);
        due("two bytes other, one more", nearest("bcd"), NONE);
        due("by its WORD", nearest("a, b"), 0);
        fresh();
        enter("abcdefghijkl");
        due("the first 12 bytes", nearest("abcdefghijklmno"), 0);
        due("two others of 12", nearest("xbcdefghijky"), 2);
        due("three others of 12", nearest("xbcdezghijky"), NONE);
        due("two taken out of 12", nearest("cdefghijkl"), 2);
        due("three taken out of 12", nearest("defghijkl"), NONE);
        fresh();
        enter("ab");
        due("the same", nearest("ab"), 0);
        due("one other, one taken out", nearest("x"), 2);
        x().remove(0);
        due("none ON the shelf keeps it", nearest("x"), 2);
        due("nor this", nearest("xb"), 1);
        sentence("NONE if there is none so near, or no TOKEN");
        due("an empty shelf", nearest("a"), NONE);
        enter("a");
        due("no TOKEN", nearest("?"), NONE);
        due("an empty tape", x().nearest(), NONE);
        x().remove(0);
        due("in a POSTING till tidy", nearest("a"), 0);
        x().tidy();
        due("in none", nearest("a"), NONE);
        sentence("When it isn't NONE, the latest look() is this WORD's");
        enter("abc");
        look("zz");
        due("nearest", nearest("abd"), 1);
        due("posting(0)", x().posting(0), 3);
        due("nearest that is NONE", nearest("zzzzzz"), NONE);
        due("posting(0) stays", x().posting(0), 3);
    }

    private static void nearestOfSeveral() {
        sentence("of several that which most DOCUMENTS ON the shelf keep, then the first by bytes");
        enter("cab cad cae");
        due("cax", nearest("cax"), 1);
        due("the first by bytes", x().posting(4), 0);
        enter("cad cae");
        enter("cad cae");
        due("cax", nearest("cax"), 1);
        due("most, then the first", x().posting(4), 1);
        enter("cae cae");
        due("cax", nearest("cax"), 1);
        due("most", x().posting(4), 2);
        x().remove(3);
        due("cax", nearest("cax"), 1);
        due("ON the shelf", x().posting(4), 1);
        x().remove(1);
        x().remove(2);
        due("cax", nearest("cax"), 1);
        due("equal ON the shelf", x().posting(4), 0);
        x().remove(0);
        due("cax", nearest("cax"), 1);
        due("none ON the shelf", x().posting(4), 0);
        due("cae, the nearest of all", nearest("cae"), 0);
        due("nearer is ahead of most", x().posting(4), 2);
        fresh();
        enter("dog dig dag");
        enter("dig dags cat");
        enter("dig cat");
        due("dogs", nearest("dogs"), 0);
        due("dog", x().posting(4), 3);
        due("dxg", nearest("dxg"), 1);
        due("dig", x().posting(4), 2);
    }

    private static void likeIndices() {
        sentence("IndexOutOfBoundsException when that isn't ON the shelf");
        dueThrow("like(0) of none", () -> x().like(0));
        enter("a");
        enter("a");
        enter("b");
        due("like(0)", x().like(0), 1);
        due("like(1)", x().like(1), 0);
        due("like(2)", x().like(2), NONE);
        for (int number : new int[] {-1, 3, 4, 119, 120, MIN, MAX}) {
            dueThrow("like(" + number + ")", () -> x().like(number));
        }
        x().remove(1);
        dueThrow("like(1) that is removed", () -> x().like(1));
        due("like(0), no other ON", x().like(0), NONE);
        x().tidy();
        dueThrow("like(1) behind tidy", () -> x().like(1));
        fresh();
        enterEmpty(119);
        enter("a");
        due("like(119)", x().like(119), NONE);
        dueThrow("like(120)", () -> x().like(120));
        due("like(0)", x().like(0), NONE);
    }

    private static void likeSums() {
        sentence("the sum over WORDS that both keep of the lesser of how often they do times I(16 n / d)");
        enter("a a a b");
        enter("a a");
        enter("b b b b b");
        enter("a c");
        // n 4: a has d 3, I(21) 5; b d 2, I(32) 6. Of 0: 1 has 10, 2 has 6, 3 has 5.
        due("like(0)", x().like(0), 1);
        due("like(2)", x().like(2), 0);
        due("like(1)", x().like(1), 0);
        // Both have a once.
        due("like(3)", x().like(3), 0);
        x().remove(1);
        // n 3: a and b d 2, I(24) 5: 2 and 3 have 5.
        due("the least number of several", x().like(0), 2);
        due("like(3)", x().like(3), 0);
        sentence("NONE if none has a WORD of it");
        enter("a");
        enter("b");
        enter("");
        due("like(0)", x().like(0), NONE);
        due("like(2)", x().like(2), NONE);
        enter("b");
        due("like(1)", x().like(1), 3);
        due("like(3)", x().like(3), 1);
        due("like(0)", x().like(0), NONE);
        sentence("n and d (of the WORD) as in 4");
        // On the shelf a is in three of five, b in two: I(26) 5, I(40) 6.
        enter("a b");
        enter("a");
        enter("b");
        enter("a");
        enter("x");
        due("rarer is more", x().like(0), 2);
        enter("b");
        // n 6: both d 3, I(32) 6.
        due("equal: the least", x().like(0), 1);
        x().remove(2);
        // n 5: b d 2, I(40) 6, a d 3, I(26) 5.
        due("ON the shelf alone", x().like(0), 5);
    }
}
