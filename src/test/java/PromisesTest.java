import java.util.function.IntSupplier;

/** For each promise of the document: ordinary inputs, the edges it names, and wrong inputs. */
public final class PromisesTest {
    private static final int NONE = GammaShelf.NONE;
    private static final int FULL = GammaShelf.FULL;

    private static int wrong = 0;
    private static int promise = 0;
    private static GammaShelf x = new GammaShelf();

    public static void main(String[] args) {
        newObject();
        feed();
        end();
        words();
        enter();
        enterLimits();
        remove();
        mark();
        tidy();
        stop();
        document();
        look();
        posting();
        chunks();
        bit();
        count();
        letter();
        searchLeaves();
        searchPhrases();
        searchSides();
        searchNear();
        searchJoints();
        searchMarks();
        faultsOfSyntax();
        faultsOfRange();
        faultsOfRoom();
        faultsOfKind();
        firstFaults();
        hit();
        rank();
        shown();
        code();
        deepest();
        nearest();
        like();
        System.out.println(wrong == 0 ? "all promises are kept" : wrong + " answers are not as due");
        if (wrong != 0) {
            System.exit(1);
        }
    }

    // ---- helpers

    private static void start(int number) {
        promise = number;
        x = new GammaShelf();
    }

    private static void due(String call, int got, int want) {
        if (got != want) {
            wrong++;
            System.out.println("promise " + promise + ": " + call + " answered " + got + ", due is " + want);
        }
    }

    private static void due(String call, boolean got, boolean want) {
        due(call, got ? 1 : 0, want ? 1 : 0);
    }

    private static void dueThrow(String call, IntSupplier made) {
        try {
            int got = made.getAsInt();
            wrong++;
            System.out.println("promise " + promise + ": " + call + " answered " + got + ", due is a throw");
        } catch (RuntimeException e) {
            if (e.getClass() != IndexOutOfBoundsException.class) {
                wrong++;
                System.out.println("promise " + promise + ": " + call + " threw " + e.getClass().getName());
            }
        }
    }

    private static int four(String text, int from) {
        int value = 0;
        for (int i = from; i < from + 4; i++) {
            value = value << 8 | (i < text.length() ? text.charAt(i) & 255 : 0);
        }
        return value;
    }

    private static void tape(String text) {
        x.end(0);
        for (int i = 0; i < text.length(); i += 20) {
            x.feed(four(text, i), four(text, i + 4), four(text, i + 8), four(text, i + 12), four(text, i + 16));
        }
        if (x.end(text.length()) != text.length()) {
            wrong++;
            System.out.println("promise " + promise + ": the tape did not take a text of " + text.length());
        }
    }

    private static int enter(String text) {
        tape(text);
        return x.enter();
    }

    private static int look(String text) {
        tape(text);
        return x.look();
    }

    private static int stop(String text, boolean on) {
        tape(text);
        return x.stop(on);
    }

    private static int nearest(String text) {
        tape(text);
        return x.nearest();
    }

    private static int search(String text) {
        tape(text);
        return x.search();
    }

    /** A query, and the documents that it finds, by number. */
    private static void finds(String text, int... numbers) {
        due("search " + text, search(text), numbers.length);
        for (int i = 0; i < numbers.length; i++) {
            due("hit(" + i + ") of " + text, x.hit(i), numbers[i]);
        }
        due("hit behind the last of " + text, x.hit(numbers.length), NONE);
    }

    private static void fault(String text, int number, int place) {
        due("search " + text, search(text), -(1000 * number + place + 1));
        due("code(0) after a fault of " + text, x.code(0), NONE);
        due("hit(0) after a fault of " + text, x.hit(0), NONE);
        due("deepest() after a fault of " + text, x.deepest(), 0);
        due("tape after " + text, x.count(6), 0);
    }

    private static void steps(String text, int... wanted) {
        int answer = search(text);
        if (answer < 0) {
            due("search " + text, answer, 0);
        }
        for (int i = 0; i < wanted.length; i++) {
            due("code(" + i + ") of " + text, x.code(i), wanted[i]);
        }
        due("code behind the last of " + text, x.code(wanted.length), NONE);
    }

    private static String repeat(String part, int times) {
        StringBuilder whole = new StringBuilder();
        for (int i = 0; i < times; i++) {
            whole.append(part);
        }
        return whole.toString();
    }

    private static void wordIs(String token, String word) {
        x = new GammaShelf();
        enter(token);
        due("words of " + token, x.count(2), 1);
        for (int i = 0; i <= word.length(); i++) {
            due("letter(0, " + i + ") of " + token, x.letter(0, i), i < word.length() ? word.charAt(i) : 0);
        }
    }

    private static void bitsAre(String bits) {
        due("posting(0)", x.posting(0), bits.length());
        for (int i = 0; i < bits.length(); i++) {
            due("bit(" + i + ")", x.bit(i), bits.charAt(i) - '0');
        }
    }

    // ---- the promises

    private static void newObject() {
        start(1);
        for (int what = 0; what <= 6; what++) {
            due("count(" + what + ")", x.count(what), 0);
        }
        due("posting(0) ahead of any look", x.posting(0), NONE);
        due("hit(0) ahead of any search", x.hit(0), NONE);
        due("code(0) ahead of any search", x.code(0), NONE);
        due("deepest() ahead of any search", x.deepest(), 0);
        dueThrow("rank(0, 0) ahead of any search", () -> x.rank(0, 0));
        dueThrow("document(0, 0)", () -> x.document(0, 0));
        due("tidy()", x.tidy(), 0);
        due("NONE", NONE, -1);
        due("FULL", FULL, -2);
    }

    private static void feed() {
        start(2);
        due("feed", x.feed(0x41424320, 0, 0, 0, 0x7A7A7A7A), 20);
        due("count(6)", x.count(6), 20);
        for (int i = 2; i <= 30; i++) {
            due("feed " + i, x.feed(0x20202020, 0x20202020, 0x20202020, 0x20202020, 0x20202020), 20 * i);
        }
        due("feed when full", x.feed(1, 2, 3, 4, 5), FULL);
        due("count(6) when full", x.count(6), 600);
        due("end(581)", x.end(581), 581);
        due("feed that would be 601", x.feed(1, 2, 3, 4, 5), FULL);
        due("end(580)", x.end(580), 580);
        due("feed that makes 600", x.feed(0x20202020, -1, -1, -1, -1), 600);
        due("enter", x.enter(), 0);
        due("words", x.count(2), 2);
        due("highest byte first", x.letter(0, 0), 'a');
        due("second byte", x.letter(0, 1), 'b');
        due("last int", x.letter(1, 0), 'z');
    }

    private static void end() {
        start(3);
        due("end(0) of an empty tape", x.end(0), 0);
        due("end(1) of an empty tape", x.end(1), NONE);
        x.feed(0x61626364, 0x65666768, 0, 0, 0);
        due("end(21)", x.end(21), NONE);
        due("end(-1)", x.end(-1), NONE);
        due("end(MIN)", x.end(Integer.MIN_VALUE), NONE);
        due("tape behind wrong ends", x.count(6), 20);
        due("end(20)", x.end(20), 20);
        due("end(3)", x.end(3), 3);
        due("count(6)", x.count(6), 3);
        x.enter();
        due("word of three bytes", x.letter(0, 3), 0);
        due("third byte", x.letter(0, 2), 'c');
    }

    private static void words() {
        start(4);
        wordIs("Cities", "city");
        wordIs("ties", "tie");
        wordIs("RUNNING", "runn");
        wordIs("going", "going");
        wordIs("needed", "need");
        wordIs("bed", "bed");
        wordIs("shed", "shed");
        wordIs("freed", "fre");
        wordIs("cats", "cat");
        wordIs("gas", "gas");
        wordIs("pass", "pass");
        wordIs("virus", "virus");
        wordIs("this", "this");
        wordIs("bases", "base");
        wordIs("feedings", "feeding");
        wordIs("abc1s", "abc1s");
        wordIs("2runs", "2runs");
        wordIs("abcdefghijklmnop", "abcdefghijkl");
        wordIs("abcdefghijks1", "abcdefghijk");
        wordIs("abcdefghijing", "abcdefghijin");
        wordIs("abcdefghiingx", "abcdefghi");
        wordIs("zzzzzzzzzzzz", "zzzzzzzzzzzz");
        wordIs("0", "0");
        wordIs("999999999999", "999999999999");
    }

    private static void enter() {
        start(4);
        due("an empty text", x.enter(), 0);
        due("LENGTH of an empty text", x.document(0, 1), 0);
        due("a text", enter("Cats and dogs\nThe cat"), 1);
        due("tape behind enter", x.count(6), 0);
        due("LENGTH", x.document(1, 1), 5);
        due("WORDS", x.document(1, 3), 4);
        stop("the", true);
        due("with a stop word", enter("the the\nthe end"), 2);
        due("LENGTH with stop words", x.document(2, 1), 1);
        due("look end", look("end"), 1);
        // Document 2 is 3 from -1, once, at place 513.
        bitsAre("011" + "1" + "0000000001000000010");
        due("only the first line feed parts", enter("a\nb\nc"), 3);
        look("c");
        // Document 3 is 4 from -1, once, at place 513.
        bitsAre("00100" + "1" + "0000000001000000010");
        due("a text without a title", enter("\nxyz"), 4);
        look("xyz");
        bitsAre("00101" + "1" + "0000000001000000001");
    }

    private static void enterLimits() {
        start(4);
        for (int i = 0; i < 120; i++) {
            due("document " + i, x.enter(), i);
        }
        tape("one more");
        due("the 121st document", x.enter(), FULL);
        due("tape behind FULL", x.count(6), 0);
        due("WORDS behind FULL", x.count(2), 0);
        x.remove(0);
        x.tidy();
        due("the 121st document, one removed", x.enter(), FULL);

        start(4);
        for (int i = 0; i < 4; i++) {
            due("100 words", enter(numbersFrom(100 + 100 * i, 100)), i);
        }
        due("400 words", x.count(2), 400);
        int taken = x.count(3);
        due("the 401st word", enter("111 abc 222"), FULL);
        due("tape behind FULL", x.count(6), 0);
        due("400 words behind FULL", x.count(2), 400);
        due("DOCUMENTS behind FULL", x.count(0), 4);
        due("TAKEN behind FULL", x.count(3), taken);
        due("no such word behind FULL", look("abc"), 0);
        due("known words alone", enter("111 222"), 4);
        x.remove(0);
        due("a removed document keeps its words", enter("abc"), FULL);
        x.tidy();
        due("99 words fewer, two of them in document 4", x.count(2), 301);
        due("room again", enter("abc"), 5);
        enter(numbersFrom(600, 97));
        due("399 words", x.count(2), 399);
        due("two new words", enter("new newer 222"), FULL);
        due("neither of them stays", x.count(2), 399);
        due("no such word behind FULL", look("new"), 0);
        due("one new word", enter("newer 222 newer"), 7);
        due("400 words", x.count(2), 400);
        takenLimit();
    }

    private static String numbersFrom(int first, int times) {
        StringBuilder text = new StringBuilder();
        for (int i = 0; i < times; i++) {
            text.append(first + i).append(i % 2 == 0 ? ' ' : '\n');
        }
        return text.toString();
    }

    /** Texts of 100 words in the body alone until 40000 bits would not do. */
    private static void takenLimit() {
        start(4);
        int number = 0;
        int answer = 0;
        for (int i = 0; i < 12 && answer >= 0; i++) {
            int before = x.count(3);
            answer = enter("\n" + numbersFrom(100 + 100 * (i % 4), 100));
            if (answer >= 0) {
                due("numbers go on", answer, number);
                number++;
                due("TAKEN is at most 40000", x.count(3) <= 40000, true);
            } else {
                due("FULL", answer, FULL);
                due("TAKEN stays", x.count(3), before);
            }
        }
        // A word first takes 48 bits; with a second text it has more than 32 bits, and takes 128.
        due("six fit, the seventh would make 43200", x.count(0), 6);
        due("TAKEN", x.count(3), 400 * 48 + 200 * 80);
        due("61 words: 40080", enter("\n" + numbersFrom(300, 61)), FULL);
        due("TAKEN stays", x.count(3), 35200);
        due("60 words: 40000", enter("\n" + numbersFrom(300, 60)), 6);
        due("TAKEN", x.count(3), 40000);
        due("a text that needs no chunk more", enter("100"), 7);
        due("TAKEN", x.count(3), 40000);
        due("a text that needs one", enter("100 499"), FULL);
        look("499");
        due("nothing of it", x.posting(2), 1);
        x.remove(7);
        due("removed ones take, till tidy", enter("\n499"), FULL);
        x.remove(6);
        due("removed ones take, till tidy", enter("\n499"), FULL);
        due("tidy", x.tidy(), 60 * 80);
        due("room again", enter("\n499"), 8);
    }

    private static void remove() {
        start(5);
        enter("one two");
        enter("two three");
        due("remove(-1)", x.remove(-1), false);
        due("remove(2)", x.remove(2), false);
        due("remove(MAX)", x.remove(Integer.MAX_VALUE), false);
        due("remove(0)", x.remove(0), true);
        due("remove(0) again", x.remove(0), false);
        due("ON", x.count(1), 1);
        due("ever", x.count(0), 2);
        finds("two", 1);
        finds("one");
        finds("not one", 1);
        due("its POSTING stays", look("two"), 2);
        due("a new one has a new number", enter("four"), 2);
    }

    private static void mark() {
        start(6);
        enter("a");
        enter("b");
        due("mark", x.mark(1, -7), true);
        due("document(1, 2)", x.document(1, 2), -7);
        due("document(0, 2)", x.document(0, 2), 0);
        due("the greatest", x.mark(0, Integer.MAX_VALUE), true);
        due("document(0, 2)", x.document(0, 2), Integer.MAX_VALUE);
        due("mark(2)", x.mark(2, 1), false);
        due("mark(-1)", x.mark(-1, 1), false);
        x.remove(1);
        due("mark of a removed one", x.mark(1, 5), false);
        due("MARK of a removed one", x.document(1, 2), -7);
    }

    private static void tidy() {
        start(7);
        enter("cat dog");
        enter("dog bird\nbird");
        enter("\nbird bird dog");
        due("nothing to tidy", x.tidy(), 0);
        int taken = x.count(3);
        due("TAKEN", taken, 48 + 48 + 128);
        x.remove(1);
        // bird had 26 and 24 bits, and has 26 now: one chunk of 32.
        due("tidy", x.tidy(), 80);
        due("WORDS", x.count(2), 3);
        due("dog", look("dog"), 2);
        bitsAre("1" + "1" + "010" + "010" + "1" + "0000000001000000011");
        due("bird", look("bird"), 1);
        bitsAre("011" + "010" + "0000000001000000001" + "1");
        x.remove(0);
        due("the looked word is as it is now", x.posting(4), 0);
        look("cat");
        due("cat till tidy", x.posting(0), 3);
        due("cat ON", x.posting(2), 0);
        due("tidy", x.tidy(), 48);
        due("cat behind tidy", x.posting(0), 0);
        dueThrow("bit(0) of no POSTING", () -> x.bit(0));
        due("WORDS", x.count(2), 2);
        due("DOCUMENTS ever", x.count(0), 3);
        due("LENGTH of a removed one", x.document(0, 1), 2);
        due("the next one", enter("dog"), 3);
        look("dog");
        bitsAre("011" + "1" + "0000000001000000011" + "1" + "1" + "1");
        finds("dog", 2, 3);
        finds("bird", 2);
    }

    private static void stop() {
        start(8);
        due("no TOKEN", stop("", true), NONE);
        due("signs alone", stop("?!", true), NONE);
        due("the", stop(" The cat", true), 1);
        due("tape behind stop", x.count(6), 0);
        due("the again", stop("the", true), 1);
        due("its WORD", stop("cities", true), 2);
        for (int i = 3; i <= 10; i++) {
            due("the " + i, stop("w" + i, true), i);
        }
        due("the 11th", stop("more", true), FULL);
        due("tape behind FULL", x.count(6), 0);
        due("the is one of ten", stop("the", true), 10);
        due("none such", stop("more", false), 10);
        due("none any more", stop("city", false), 9);
        due("count(5)", x.count(5), 9);
        due("room again", stop("more", true), 10);
        enter("the city more w3 w10 x");
        due("kept", x.document(0, 1), 2);
        due("off the", stop("the", false), 9);
        enter("the");
        finds("the", 1);
        finds("city", 0);
        stop("city", true);
        finds("city");
        stop("city", false);
        finds("city", 0);
        due("off without a TOKEN", stop("..", false), NONE);
    }

    private static void document() {
        start(9);
        enter("cat cats dog\ncat");
        due("ON", x.document(0, 0), 1);
        due("LENGTH", x.document(0, 1), 4);
        due("MARK", x.document(0, 2), 0);
        due("WORDS", x.document(0, 3), 2);
        due("what 4", x.document(0, 4), NONE);
        due("what -1", x.document(0, -1), NONE);
        dueThrow("document(1, 0)", () -> x.document(1, 0));
        dueThrow("document(-1, 0)", () -> x.document(-1, 0));
        dueThrow("document(1, 9)", () -> x.document(1, 9));
        dueThrow("document(MAX, 0)", () -> x.document(Integer.MAX_VALUE, 0));
        x.mark(0, 3);
        x.remove(0);
        due("not ON", x.document(0, 0), 0);
        due("LENGTH", x.document(0, 1), 4);
        due("MARK", x.document(0, 2), 3);
        due("WORDS", x.document(0, 3), 2);
    }

    private static void look() {
        start(10);
        due("nothing", look(""), 0);
        enter("cats");
        enter("cat");
        enter("dog");
        due("cat", look("?CATS dog"), 2);
        due("tape behind look", x.count(6), 0);
        due("no such", look("mouse"), 0);
        x.remove(0);
        due("removed ones too", look("cat"), 2);
        due("no TOKEN", look("??"), 0);
        x.tidy();
        due("till tidy", look("cat"), 1);
    }

    private static void posting() {
        start(11);
        due("ahead of any look", x.posting(0), NONE);
        due("ahead of any look", x.posting(4), NONE);
        look("");
        due("no TOKEN", x.posting(0), 0);
        due("no TOKEN", x.posting(4), 0);
        due("another what", x.posting(5), NONE);
        due("another what", x.posting(-1), NONE);
        enter("ab abc b\nab");
        enter("ab 9 a");
        enter("a");
        look("ab");
        // 1 010 1 and G(512) of 19 bits, then 1 1 1.
        due("bits", x.posting(0), 27);
        due("CHUNKS", x.posting(1), 1);
        due("DOCUMENTS ON", x.posting(2), 2);
        due("PLACES in these", x.posting(3), 3);
        due("WORDS ahead: 9 a", x.posting(4), 2);
        look("abc");
        due("WORDS ahead: 9 a ab", x.posting(4), 3);
        look("ab");
        x.remove(0);
        due("DOCUMENTS ON", x.posting(2), 1);
        due("PLACES in these", x.posting(3), 1);
        due("bits stay", x.posting(0), 27);
        enter("ab");
        due("as it is now", x.posting(2), 2);
        look("zzz");
        for (int what = 0; what <= 4; what++) {
            due("in no POSTING: what " + what, x.posting(what), 0);
        }
        due("another what", x.posting(5), NONE);
        enter("zzz");
        due("there now", x.posting(0), 5 + 1 + 1);
    }

    /** The first chunk has 32 bits, then 64, 128, 256, 256. */
    private static void chunks() {
        start(11);
        int[] ends = {32, 96, 224, 480, 736};
        int bits = 0;
        int number = 0;
        enter("b");
        for (int i = 0; i < 40; i++) {
            // Sixteen places one behind the other in the title: 16 bits, and G(16) of 9.
            enter("a a a a a a a a a a a a a a a a");
            bits += (number == 0 ? 3 : 1) + 9 + 16;
            number++;
            look("a");
            due("bits", x.posting(0), bits);
            int chunks = 0;
            int taken = 48;
            for (int j = 0; j < ends.length; j++) {
                int begin = j == 0 ? 0 : ends[j - 1];
                if (begin < bits) {
                    chunks++;
                    taken += ends[j] - begin + 16;
                }
            }
            if (bits <= 736) {
                due("CHUNKS of " + bits, x.posting(1), chunks);
                due("TAKEN of " + bits, x.count(3), taken);
            }
        }
        start(11);
        enter("a a a a a a a a a a a a a a a a a a a a");
        look("a");
        due("bits", x.posting(0), 1 + 9 + 20);
        enter("\n");
        start(11);
        enter("a a a a a a a a a a a a a a a a a a a a a a");
        look("a");
        due("32 bits", x.posting(0), 32);
        due("one CHUNK", x.posting(1), 1);
        due("48 TAKEN", x.count(3), 48);
        start(11);
        enter("a a a a a a a a a a a a a a a a a a a a a a a");
        look("a");
        due("33 bits", x.posting(0), 33);
        due("two CHUNKS", x.posting(1), 2);
        due("128 TAKEN", x.count(3), 128);
        due("last bit", x.bit(32), 1);
    }

    private static void bit() {
        start(12);
        dueThrow("ahead of any look", () -> x.bit(0));
        enter("a");
        enter("b");
        enter("a b a a");
        enter("");
        enter("\nq a");
        look("a");
        // Documents 0, 2, 4; in the second places 0, 2, 3; in the last 513.
        bitsAre("1" + "1" + "1" + "010" + "011" + "1" + "010" + "1" + "010" + "1" + "0000000001000000010");
        dueThrow("bit(-1)", () -> x.bit(-1));
        dueThrow("bit behind the last", () -> x.bit(x.posting(0)));
        dueThrow("bit(MAX)", () -> x.bit(Integer.MAX_VALUE));
        look("none");
        dueThrow("in no POSTING", () -> x.bit(0));
        look("");
        dueThrow("no TOKEN", () -> x.bit(0));
        longPosting();
    }

    /** Bits are read over the borders of chunks. */
    private static void longPosting() {
        start(12);
        StringBuilder bits = new StringBuilder();
        for (int i = 0; i < 30; i++) {
            enter("k j\nk k j k");
            // Places 0, 512, 513, 515; in four places.
            bits.append("1").append("00100").append("1").append("0000000001000000000").append("1").append("010");
        }
        look("k");
        bitsAre(bits.toString());
        due("CHUNKS of 900 bits", x.posting(1), 6);
    }

    private static void count() {
        start(13);
        enter("cat dog\nbird");
        enter("cat");
        x.remove(1);
        stop("the", true);
        tape("abc");
        due("ever", x.count(0), 2);
        due("ON", x.count(1), 1);
        due("WORDS", x.count(2), 3);
        due("TAKEN", x.count(3), 144);
        // cat 1 1 1 1 1 1, dog 1 1 010, bird 1 1 and 19.
        due("bits", x.count(4), 6 + 5 + 21);
        due("STOP WORDS", x.count(5), 1);
        due("bytes", x.count(6), 3);
        due("what 7", x.count(7), NONE);
        due("what -1", x.count(-1), NONE);
        due("what MAX", x.count(Integer.MAX_VALUE), NONE);
    }

    private static void letter() {
        start(14);
        dueThrow("no WORD", () -> x.letter(0, 0));
        enter("b ab a 9 abc abcdefghijklmn");
        String[] sorted = {"9", "a", "ab", "abc", "abcdefghijkl", "b"};
        for (int k = 0; k < sorted.length; k++) {
            for (int i = 0; i < 15; i++) {
                due("letter(" + k + ", " + i + ")", x.letter(k, i), i < sorted[k].length() ? sorted[k].charAt(i) : 0);
            }
        }
        due("far behind", x.letter(0, Integer.MAX_VALUE), 0);
        dueThrow("k 6", () -> x.letter(6, 0));
        dueThrow("k -1", () -> x.letter(-1, 0));
        dueThrow("i -1", () -> x.letter(0, -1));
        dueThrow("i MIN", () -> x.letter(0, Integer.MIN_VALUE));
    }

    private static void searchLeaves() {
        start(15);
        enter("The cat runs\nin the city");
        enter("dogs run\ncaterpillar");
        enter("concatenate");
        finds("cat", 0);
        due("tape behind search", x.count(6), 0);
        finds("CATS", 0);
        finds("run", 0, 1);
        finds("nothing");
        finds("cat*", 0, 1);
        finds("CaT *", 0, 1);
        finds("cats*");
        finds("c*", 0, 1, 2);
        finds("concatenatexyz*");
        finds("caterpillar*", 1);
        finds("caterpillarxxx*");
        finds("title", new int[0]);
        finds("running", new int[0]);
        finds("runs", 0, 1);
        stop("run", true);
        finds("run");
        finds("runs");
        finds("run*", 0, 1);
        stop("run", false);
        start(15);
        enter("title body\nor and not near");
        finds("title", 0);
        finds("body title", 0);
        finds("\"or and not near\"", 0);
        finds("\"OR\"", 0);
        finds("title*", 0);
        finds("5");
    }

    private static void searchPhrases() {
        start(15);
        enter("cat and dog\ndog runs cat");
        enter("cat\nand dog");
        enter("dog cat");
        finds("\"cat and dog\"", 0);
        finds("\"cat, and... (dogs)\"", 0);
        finds("\"dog cat\"", 2);
        finds("\"and dog\"", 0, 1);
        finds("\"cat\"", 0, 1, 2);
        finds("\"cat unknown\"");
        stop("and", true);
        finds("\"cat and dog\"", 0);
        finds("\"and dog\"", 0, 1);
        finds("\"dog and cat\"", 0);
        finds("\"cat and\"", 0, 1, 2);
        finds("\"dog and and\"", 0, 1, 2);
        // Ahead of the first place of a title or body there is none.
        finds("\"and cat\"", 0, 2);
        due("where", x.rank(0, 2), 0);
        finds("\"and and cat\"", 0);
        due("in the body", x.rank(0, 2), 512);
        finds("\"and and and cat\"");
        finds("\"and\"");
        finds("\"and and\"");
    }

    private static void searchSides() {
        start(15);
        enter("cat\ndog");
        enter("dog\ncat");
        finds("title:cat", 0);
        finds("body:cat", 1);
        finds("TITLE : cat", 0);
        finds("title:body:cat");
        finds("title:title:cat", 0);
        finds("title:ca*", 0);
        finds("body:\"cat\"", 1);
        finds("title:cat or body:dog", 0);
        finds("not title:cat", 1);
        finds("title:cat dog", 0);
    }

    private static void searchNear() {
        start(15);
        enter("cat a b dog\ndog a cat");
        enter("cat\ndog");
        enter("dog cat dog");
        finds("cat near 1 dog", 2);
        finds("cat near 2 dog", 0, 2);
        finds("title:cat near 2 title:dog", 2);
        finds("title:cat near 3 title:dog", 0, 2);
        finds("cat near 200 dog", 0, 2);
        finds("title:cat near 200 body:dog");
        finds("cat near 1 cat", 0, 1, 2);
        finds("ca* near 1 cat", 0, 1, 2);
        finds("dog near 1 \"dog cat\"", 2);
        finds("\"a b\" near 001 cat", 0);
        finds("not cat near 2 dog", 1);
        finds("cat near 2 dog cat", 0, 2);
        finds("unknown near 2 dog");
    }

    private static void searchJoints() {
        start(15);
        enter("a b");
        enter("b c");
        enter("c d");
        enter("");
        finds("a or c", 0, 1, 2);
        finds("b c", 1);
        finds("b and c", 1);
        finds("b AND c or a OR zz", 0, 1);
        finds("b not c", 0);
        finds("b and not c", 0);
        finds("not b", 2, 3);
        finds("not not b", 0, 1);
        finds("not not not b", 2, 3);
        finds("not b not c", 3);
        finds("not (b or c)", 3);
        finds("(a or c) and (b or d)", 0, 1, 2);
        finds("a or b c", 0, 1);
        finds("a\nor\nb", 0, 1);
        finds("(((b)))c", 1);
        finds("not zz", 0, 1, 2, 3);
        x.remove(3);
        finds("not zz", 0, 1, 2);
    }

    private static void searchMarks() {
        start(15);
        for (int i = 0; i < 4; i++) {
            enter("a");
        }
        x.mark(0, -5);
        x.mark(1, 7);
        x.mark(2, 999999999);
        finds("[-5..7]", 0, 1, 3);
        finds("[ -5 .. -5 ]", 0);
        finds("[7..7]", 1);
        finds("[1..6]");
        finds("[8..999999999]", 2);
        finds("[-999999999..-1]", 0);
        finds("[-0..0]", 3);
        finds("not [0..9]", 0, 2);
        finds("a[0..9]", 1, 3);
        x.mark(2, Integer.MIN_VALUE);
        finds("[-999999999..999999999]", 0, 1, 3);
    }

    private static void faultsOfSyntax() {
        start(15);
        enter("a");
        fault("", 1, 0);
        fault("  \n", 1, 3);
        fault(")", 1, 0);
        fault("a )", 1, 2);
        fault("(a", 1, 2);
        fault("(a ", 1, 3);
        fault("()", 1, 1);
        fault("or", 1, 0);
        fault("a or", 1, 4);
        fault("a and or b", 1, 6);
        fault("and a", 1, 0);
        fault("not", 1, 3);
        fault("a near b", 1, 7);
        fault("a near", 1, 6);
        fault("a near 5", 1, 8);
        fault("a near 0005 b", 1, 7);
        fault("a near 5x b", 1, 7);
        fault("a near -5 b", 1, 7);
        fault("a near 5 b near 5 c", 1, 11);
        fault("near 5 a", 1, 0);
        fault("*", 1, 0);
        fault("a**", 1, 2);
        fault("\"a\"*", 1, 3);
        fault("\"\"", 1, 1);
        fault("\" ?! \"", 1, 5);
        fault("\"", 1, 1);
        fault("\"abc", 1, 4);
        fault("title:", 1, 6);
        fault("title:or", 1, 6);
        fault("a:b", 1, 1);
        fault(":", 1, 0);
        fault("a, b", 1, 1);
        fault("a\tb", 1, 1);
        fault("a\0", 1, 1);
        fault("\u00e4", 1, 0);
        fault("[", 1, 1);
        fault("[]", 1, 1);
        fault("[a..b]", 1, 1);
        fault("[1]", 1, 2);
        fault("[1.2]", 1, 2);
        fault("[1. .2]", 1, 2);
        fault("[1...2]", 1, 4);
        fault("[1..]", 1, 4);
        fault("[1..2", 1, 5);
        fault("[1..2 3]", 1, 6);
        fault("[- 1..2]", 1, 1);
        fault("[-..2]", 1, 1);
        fault("[-x..2]", 1, 1);
        fault("[1..-]", 1, 4);
        fault("[--1..2]", 1, 1);
        fault("[+1..2]", 1, 1);
        fault("[1234567890..2]", 1, 1);
        fault("[-1234567890..2]", 1, 1);
        fault("[1x..2]", 1, 1);
        fault("[1..2x]", 1, 4);
        fault("]", 1, 0);
        fault("-5", 1, 0);
        fault("..", 1, 0);
    }

    private static void faultsOfRange() {
        start(15);
        enter("a");
        fault("a near 0 b", 2, 7);
        fault("a near 000 b", 2, 7);
        fault("a near 201 b", 2, 7);
        fault("a near 999 )", 2, 7);
        finds("a near 1 a", 0);
        finds("a near 200 a", 0);
        fault("[5..4]", 2, 4);
        fault("[5 .. -5]", 2, 6);
        fault("[-4..-5", 2, 5);
        finds("[5..5]");
    }

    private static void faultsOfRoom() {
        start(15);
        enter("a");
        finds(repeat("a ", 40), 0);
        fault(repeat("a ", 41), 3, 80);
        fault(repeat("a ", 40) + "\"\"", 3, 80);
        fault(repeat("a ", 40) + "[", 3, 80);
        fault(repeat("a ", 40) + "title:a", 3, 86);
        fault(repeat("a ", 40) + "(a)", 3, 81);
        fault(repeat("[1..2]", 41), 3, 240);
        finds("\"" + repeat("a ", 160) + "\"");
        fault("\"" + repeat("a ", 161) + "\"", 3, 321);
        fault("\"" + repeat("a ", 80) + "\"\"" + repeat("a ", 81), 3, 323);
        finds(repeat("(", 12) + "a" + repeat(")", 12), 0);
        fault(repeat("(", 13) + "a" + repeat(")", 13), 3, 12);
        finds(repeat("(", 12) + "a)(a" + repeat(")", 12), 0);
        finds(repeat("not ", 40) + "a", 0);
        finds(repeat("not ", 39) + "a");
        fault(repeat("not ", 41) + "a", 3, 160);
        finds(repeat("not ", 40) + "a " + repeat("not ", 40) + "a", 0);
        finds(repeat("title:", 12) + "a", 0);
        fault(repeat("title:", 13) + "a", 3, 72);
        fault(repeat("body: ", 13), 3, 72);
        finds(repeat("title:", 12) + "title", new int[0]);
    }

    private static void faultsOfKind() {
        start(15);
        enter("a b");
        fault("(a) near 2 b", 4, 4);
        fault("a near 2 (b)", 4, 2);
        fault("[1..2] near 2 b", 4, 7);
        fault("a near 2 [1..2]", 4, 2);
        fault("title:(a)", 4, 0);
        fault("title:[1..2]", 4, 0);
        fault("body:title:[1..2]", 4, 5);
        fault("b body:(a)", 4, 2);
        fault("a near 2 title:(a)", 4, 9);
        finds("title:a near 2 b", 0);
        finds("\"a\" near 2 b*", 0);
    }

    /** Of several faults that which is come to first; of one lexeme the least number. */
    private static void firstFaults() {
        start(15);
        enter("a b");
        fault("title:(a) )", 4, 0);
        fault("title:(a", 1, 8);
        fault("(a) near b", 1, 9);
        fault("(a) near 0 b", 2, 9);
        fault("(a) near 2 (b) )", 4, 4);
        fault("(a) near 2 \"b\" )", 4, 4);
        fault("(a) near 2 b* )", 4, 4);
        fault("(a) near 2 b )", 1, 13);
        fault("(a) near 2 b near 2 c", 1, 13);
        fault("(a) near 2 b c )", 4, 4);
        fault("(a) near 2 b \"", 4, 4);
        fault("((a) near 2 b", 1, 13);
        fault("((a) near 2 b)", 4, 5);
        fault("(a) near 2 b [1..0]", 4, 4);
        fault("[2..1] )", 2, 4);
        fault(repeat("a ", 38) + "(a) near 2 b c", 3, 89);
        fault(repeat("a ", 38) + "(a) near 2 b )", 1, 89);
        fault(repeat("a ", 40) + "or )", 1, 83);
        fault("a near 2 " + repeat("(", 13), 3, 21);
    }

    private static void hit() {
        start(16);
        dueThrow("hit(-1) ahead of any search", () -> x.hit(-1));
        enter("a");
        enter("b");
        enter("a a a");
        search("a");
        due("hit(0)", x.hit(0), 0);
        due("hit(1)", x.hit(1), 2);
        due("hit(2)", x.hit(2), NONE);
        due("hit(MAX)", x.hit(Integer.MAX_VALUE), NONE);
        dueThrow("hit(-1)", () -> x.hit(-1));
        x.remove(0);
        enter("a");
        due("as it was found", x.hit(0), 0);
        due("as it was found", x.hit(2), NONE);
        search("(");
        due("nothing with a fault", x.hit(0), NONE);
        search("a");
        due("hit(0)", x.hit(0), 2);
        due("hit(1)", x.hit(1), 3);
    }

    private static void rank() {
        start(17);
        dueThrow("rank(0, 0) ahead of any search", () -> x.rank(0, 0));
        enter("x y\ncat");
        enter("cat");
        enter("none of it");
        enter("cat\ncat cat a b c d e");
        search("cat");
        // n 4, d 3: I(21) = 5. f 1: 100 / 2 = 50; f 3: 300 / 4 = 75; f 5, LENGTH 8: 500 / 7 = 71.
        due("first", x.rank(0, 0), 1);
        due("its SCORE", x.rank(0, 1), 375);
        due("second", x.rank(1, 0), 3);
        due("its SCORE", x.rank(1, 1), 355);
        due("third", x.rank(2, 0), 0);
        due("its SCORE", x.rank(2, 1), 250);
        due("what 3", x.rank(0, 3), NONE);
        due("what -1", x.rank(0, -1), NONE);
        dueThrow("rank(3, 0)", () -> x.rank(3, 0));
        dueThrow("rank(-1, 0)", () -> x.rank(-1, 0));
        dueThrow("rank(3, 9)", () -> x.rank(3, 9));
        x.remove(1);
        x.tidy();
        due("as things were then", x.rank(0, 1), 375);
        due("as things were then", x.rank(0, 0), 1);
        search("cat not x");
        // n 3, d 2: I(24) = 5.
        due("found", x.hit(0), 3);
        due("not has no WEIGHT", x.rank(0, 1), 355);
        search("cat not not y");
        // Of y n 3, d 1: I(48) = 6 and f 3: 300 / 4 = 75.
        due("two nots are none", x.rank(0, 1), 250 + 450);
        search("not (not cat)");
        due("under nots", x.rank(0, 1), 0);
        due("by number", x.rank(0, 0), 0);
        due("SHOWN under nots", x.rank(0, 2), NONE);
        search("cat near 5 cat");
        due("each LEAF for itself", x.rank(0, 1), 710);
        search("body:cat");
        // f 2, LENGTH 8: 200 / 4 = 50; f 1, LENGTH 3: 50.
        due("equal: the least number", x.rank(0, 0), 0);
        due("SCORE of the body", x.rank(0, 1), 250);
        due("SCORE of the body", x.rank(1, 1), 250);
        search("title:cat or y");
        // f 3, d 1: I(48) = 6, 300 / 5 = 60; y 75 times 6.
        due("SCORE of the title", x.rank(1, 1), 360);
        due("SCORE of y", x.rank(0, 1), 450);
        search("[0..0]");
        due("MARKS have no WEIGHT", x.rank(0, 1), 0);
        due("MARKS have no PLACES", x.rank(0, 2), NONE);
        search("(");
        dueThrow("rank(0, 0) with a fault", () -> x.rank(0, 0));
        start(17);
        enter("\na b c d e f g");
        enter("\na b c d e f g h");
        search("a");
        // LENGTH / 8 is cut: 100 / 2 = 50 and 100 / 3 = 33, times I(16) = 5.
        due("LENGTH 7", x.rank(0, 1), 250);
        due("LENGTH 8", x.rank(1, 1), 165);
    }

    private static void shown() {
        start(17);
        enter("a\n" + repeat("b ", 5) + "a " + repeat("b ", 8) + "a b a");
        search("a");
        // Places 0, 517, 526, 528: 517 to 526 has two, 526 to 528 too.
        due("the least of several", x.rank(0, 2), 517);
        search("a or \"b a\"");
        // Places 516, 525, 527 too: 516 to 525 has three, 517 to 526 too, 525 to 528 four.
        due("most of them", x.rank(0, 2), 525);
        search("a or a or a");
        due("each PLACE once", x.rank(0, 2), 517);
        search("title:a");
        due("left by title", x.rank(0, 2), 0);
        search("body:a");
        due("left by body", x.rank(0, 2), 517);
        search("title:a b");
        due("with b", x.rank(0, 2), 512);
        search("title:a not zz");
        due("zz is under not", x.rank(0, 2), 0);
        search("not zz");
        due("none", x.rank(0, 2), NONE);
        start(17);
        enter(repeat("c ", 29) + "a c a\n" + "a");
        search("a");
        // Places 29, 31: across the border of an int of bits.
        due("29", x.rank(0, 2), 29);
        enter(repeat("c ", 31) + "a a a");
        search("a");
        due("31", x.hit(1), 1);
        due("31", x.rank(0, 2), 31);
    }

    private static void code() {
        start(18);
        enter("a b");
        dueThrow("code(-1)", () -> x.code(-1));
        steps("a", 1000);
        steps("a*", 2000);
        steps("\"a b\"", 3000);
        steps("[1..2]", 4000);
        steps("a b", 1000, 1001, 8000);
        steps("a and b or c", 1000, 1001, 8000, 1002, 9000);
        steps("a or b or c", 1000, 1001, 9000, 1002, 9000);
        steps("a or b c", 1000, 1001, 1002, 8000, 9000);
        steps("a near 17 b", 1000, 1001, 5017);
        steps("not a", 1000, 10000);
        steps("not not a", 1000);
        steps("not not not a", 1000, 10000);
        steps("a not b", 1000, 1001, 11000);
        steps("a and not b", 1000, 1001, 11000);
        steps("a not not b", 1000, 1001, 8000);
        steps("not a not b", 1000, 10000, 1001, 11000);
        steps("not (not a)", 1000, 10000, 10000);
        steps("a (not b)", 1000, 1001, 10000, 8000);
        steps("not a near 3 b", 1000, 1001, 5003, 10000);
        steps("title:a", 1000, 6000);
        steps("title:body:a*", 2000, 7000, 6000);
        steps("body:a near 9 title:\"b\"", 1000, 7000, 3001, 6000, 5009);
        steps("a (b or [1..2]) c", 1000, 1001, 4002, 9000, 8000, 1003, 8000);
        due("code(MAX)", x.code(Integer.MAX_VALUE), NONE);
        dueThrow("code(MIN)", () -> x.code(Integer.MIN_VALUE));
        x.remove(0);
        due("of the latest search", x.code(0), 1000);
    }

    private static void deepest() {
        start(19);
        due("ahead of any search", x.deepest(), 0);
        search("a");
        due("a", x.deepest(), 1);
        search("a b c d");
        due("a b c d", x.deepest(), 2);
        search("a (b (c (d)))");
        due("a (b (c (d)))", x.deepest(), 4);
        search("not title:a");
        due("not title:a", x.deepest(), 1);
        search("a or b c near 2 d");
        due("a or b c near 2 d", x.deepest(), 4);
        search("a (b c (d)) e");
        due("a (b c (d)) e", x.deepest(), 3);
        search("a or");
        due("with a fault", x.deepest(), 0);
    }

    private static void nearest() {
        start(20);
        due("an empty shelf", nearest("cat"), NONE);
        due("no look yet", x.posting(0), NONE);
        enter("cart");
        enter("cat care");
        enter("care");
        due("the same", nearest("cats"), 0);
        due("tape behind nearest", x.count(6), 0);
        due("look is at cat", x.posting(4), 2);
        due("car: care is in most", nearest("car"), 1);
        due("look is at care", x.posting(2), 2);
        x.remove(2);
        due("car: care, then by bytes", nearest("car"), 1);
        due("look is at care", x.posting(4), 0);
        x.remove(1);
        due("car: cart alone is ON", nearest("car"), 1);
        due("look is at cart", x.posting(4), 1);
        due("cut: cat, though removed", nearest("cut"), 1);
        due("look is at cat", x.posting(4), 2);
        due("too far", nearest("dogma"), NONE);
        due("the look stays", x.posting(4), 2);
        due("no TOKEN", nearest("..."), NONE);
        due("the look stays", x.posting(4), 2);
        due("put in two", nearest("cartel"), 2);
        due("take out two", nearest("ca"), 1);
        due("take out two: c", nearest("c"), 2);
        due("be others: two", nearest("bort"), 2);
        due("not three", nearest("bore"), 2);
        due("not three", nearest("borex"), NONE);
        x.tidy();
        due("till tidy", nearest("cat"), 1);
        due("look is at cart", x.posting(4), 0);
    }

    private static void like() {
        start(21);
        dueThrow("like(0) of an empty shelf", () -> x.like(0));
        enter("a a b c");
        due("no other one", x.like(0), NONE);
        enter("a");
        enter("b c");
        enter("x");
        // n 4: a, b, c have d 2: I(32) = 6. Document 1: 6, document 2: 12.
        due("like(0)", x.like(0), 2);
        due("like(1)", x.like(1), 0);
        due("like(3)", x.like(3), NONE);
        enter("a a a");
        // n 5: a has d 3: I(26) = 5, b and c I(40) = 6. Document 4: 10, document 2: 12.
        due("like(0)", x.like(0), 2);
        // Of document 1 both have a once.
        due("the least of several", x.like(1), 0);
        due("like(4)", x.like(4), 0);
        x.remove(0);
        due("ON alone", x.like(1), 4);
        dueThrow("like of a removed one", () -> x.like(0));
        dueThrow("like(-1)", () -> x.like(-1));
        dueThrow("like(5)", () -> x.like(5));
        dueThrow("like(MAX)", () -> x.like(Integer.MAX_VALUE));
        due("like(2)", x.like(2), NONE);
    }
}
