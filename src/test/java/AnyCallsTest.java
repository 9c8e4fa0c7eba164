/**
 * Any arguments in any state, also far behind the 512th call: a call throws nothing but an
 * IndexOutOfBoundsException of its own (not one of the machine's classes below it), and only a
 * call that may; each call ends.
 */
public final class AnyCallsTest {
    private static final int[] EDGES = {
        0, 1, -1, 2, 3, 7, 12, 13, 31, 32, 39, 40, 41, 119, 120, 121, 255, 399, 400, 511, 512, 599, 600, 601,
        832, 1000, 40000, Integer.MAX_VALUE, Integer.MAX_VALUE - 1, Integer.MIN_VALUE, Integer.MIN_VALUE + 1,
    };
    private static final String[] PARTS = {
        "a", "b ", "cat", "running ", "cities", "title:", "body:", "near ", "2 ", "200 ", "not ", "or ", "and ", "(", ")", "[", "]",
        "..", "-", "1", "*", "\"", " ", "\n", "zzzzzzzzzzzzzzz", "999999999", "a near 3 b ", "[1..2]", "(a)", "\"a b\" ", "a* ", "\u00ff", "\0",
    };

    private static int wrong = 0;
    private static long seed = 3;

    public static void main(String[] args) {
        for (int run = 0; run < 60 && wrong < 10; run++) {
            seed = 31L * run + 5;
            GammaShelf x = new GammaShelf();
            for (int i = 0; i < 2500 && wrong < 10; i++) {
                anyCall(x, run);
            }
        }
        fullShelf();
        System.out.println(wrong == 0 ? "nothing is thrown that must not be" : wrong + " calls threw what they must not");
        if (wrong != 0) {
            System.exit(1);
        }
    }

    private static int chance(int below) {
        seed = seed * 6364136223846793005L + 1442695040888963407L;
        return (int) ((seed >>> 33) % below);
    }

    private static int anyInt() {
        switch (chance(4)) {
            case 0:
                return EDGES[chance(EDGES.length)];
            case 1:
                return (int) (seed >>> 20);
            default:
                return chance(40);
        }
    }

    private static void anyTape(GammaShelf x, int run) {
        StringBuilder text = new StringBuilder();
        for (int i = chance(run % 3 == 0 ? 400 : 12); i > 0; i--) {
            if (run % 4 == 1 && chance(2) == 0) {
                text.append((char) ('a' + chance(26))).append((char) ('a' + chance(26))).append(' ');
            } else {
                text.append(PARTS[chance(PARTS.length)]);
            }
        }
        for (int i = 0; i < text.length(); i += 20) {
            int[] v = new int[5];
            for (int j = 0; j < 20; j++) {
                v[j / 4] = v[j / 4] << 8 | (i + j < text.length() ? text.charAt(i + j) & 255 : 32);
            }
            x.feed(v[0], v[1], v[2], v[3], v[4]);
        }
    }

    private static void anyCall(GammaShelf x, int run) {
        int which = chance(26);
        int a = anyInt();
        int b = anyInt();
        try {
            call(x, run, which, a, b);
        } catch (RuntimeException | StackOverflowError e) {
            boolean may = which == 7 || which == 10 || which == 12 || which >= 14 && which <= 16 || which == 19;
            if (e.getClass() != IndexOutOfBoundsException.class || !may) {
                wrong++;
                System.out.println("run " + run + ": call " + which + " of " + a + ", " + b + " threw " + e);
                e.printStackTrace(System.out);
            }
        }
    }

    private static void call(GammaShelf x, int run, int which, int a, int b) {
        switch (which) {
            case 0: x.feed(a, b, a, b, a); break;
            case 1: x.end(a); break;
            case 2: x.enter(); break;
            case 3: if (chance(4) == 0) { x.remove(a); } break;
            case 4: x.mark(a, b); break;
            case 5: x.tidy(); break;
            case 6: x.stop(chance(2) == 0); break;
            case 7: x.document(a, b); break;
            case 8: x.look(); break;
            case 9: x.posting(a); break;
            case 10: x.bit(a); break;
            case 11: x.count(a); break;
            case 12: x.letter(a, b); break;
            case 13: x.search(); break;
            case 14: x.hit(a); break;
            case 15: x.rank(a, b); break;
            case 16: x.code(a); break;
            case 17: x.deepest(); break;
            case 18: x.nearest(); break;
            case 19: x.like(a); break;
            case 20: anyTape(x, run); x.enter(); break;
            case 21: anyTape(x, run); x.search(); break;
            case 22: anyTape(x, run); x.look(); break;
            case 23: anyTape(x, run); x.nearest(); break;
            default: anyTape(x, run); break;
        }
    }

    /** As many documents, words, bits and places as there can be, then all that reads them. */
    private static void fullShelf() {
        GammaShelf x = new GammaShelf();
        for (int i = 0; i < 200; i++) {
            int letters = 0x00200020 | 'a' + i % 26 << 24 | 'a' + i / 7 % 26 << 8;
            for (int j = 0; j < 30; j++) {
                x.feed(letters, letters + (j << 24 & 0x07000000), letters, letters + 0x0100, letters);
            }
            x.enter();
        }
        for (int i = 0; i < 26; i++) {
            x.feed('a' + i << 24 | '*' << 16 | 0x206F, 0x72206E6F, 0x74202020, 0x7A2A2020, 0x20202020);
            if (x.search() < 0) {
                wrong++;
                System.out.println("a query of a full shelf has a fault");
            }
            x.like(i % x.count(0));
        }
        for (int i = 0; i < 120; i += 2) {
            x.remove(i);
        }
        x.tidy();
        for (int k = 0; k < x.count(2); k++) {
            x.letter(k, 11);
        }
    }
}
