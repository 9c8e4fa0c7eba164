import java.util.Arrays;

/**
 * A shelf of documents that finds: texts are cut into words, where each stands is kept as gamma
 * codes in chunks of one row of bits; queries are read, made to code and worked on a stack; what
 * is found is ranked, shown where; words that are told wrong get the nearest one.
 */
public final class GammaShelf {
    /** There is none. */
    public static final int NONE = -1;
    /** No room. */
    public static final int FULL = -2;

    private static final int TAPE_BYTES = 600;
    // Two bytes of the tape are the least that a token and what parts it from the next one take.
    private static final int MOST_TOKENS = TAPE_BYTES / 2;
    private static final int WORD_BYTES = 12;
    private static final int MOST_WORDS = 400;
    private static final int MOST_STOPS = 10;
    private static final int MOST_DOCUMENTS = 120;
    private static final int MOST_TAKEN = 40000;
    private static final int FIRST_OF_BODY = 512;
    // Behind the last place that a text of 600 bytes can have, brought to whole ints of bits.
    private static final int PLACES_END = 832;
    private static final int MOST_LEAVES = 40;
    private static final int MOST_PHRASE_WORDS = 160;

    private static final int MOST_FAR = 2;

    private static final int TOKEN_LEAF = 1;
    private static final int START_LEAF = 2;
    private static final int PHRASE_LEAF = 3;
    private static final int MARKS_LEAF = 4;
    private static final int STEP_NEAR = 5;
    private static final int STEP_TITLE = 6;
    private static final int STEP_BODY = 7;
    private static final int STEP_AND = 8;
    private static final int STEP_OR = 9;
    private static final int STEP_NOT = 10;
    private static final int STEP_LESS = 11;
    private static final int STEP_FACTOR = 1000;

    private static final int IN_TITLE = 1;
    private static final int IN_BODY = 2;

    // What a token of a query wants where it is not the rank of a word; no word has these ranks.
    private static final int WANTS_NOTHING = -2;
    private static final int WANTS_UNKNOWN = -3;

    // Looked words are above 0; no token was looked at: 0.
    private static final long NEVER_LOOKED = -1;

    private final Tape tape;
    private final Words words;
    private final Words stops;
    private final Documents documents;
    private final Postings postings;
    private final Reader reader;
    private final Intake intake;
    private final Query query;
    private final Parser parser;
    private final Finder finder;
    private Postings spare;
    private long looked;

    public GammaShelf() {
        tape = new Tape();
        words = new Words(MOST_WORDS);
        stops = new Words(MOST_STOPS);
        documents = new Documents();
        postings = new Postings();
        reader = new Reader(postings);
        intake = new Intake(tape, words, stops);
        query = new Query();
        parser = new Parser(tape, words, stops, query);
        finder = new Finder(documents, words, postings, query);
        spare = null;
        looked = NEVER_LOOKED;
    }

    public int feed(int a, int b, int c, int d, int e) {
        if (!tape.hasRoom(20)) {
            return FULL;
        }
        tape.put(a);
        tape.put(b);
        tape.put(c);
        tape.put(d);
        tape.put(e);
        return tape.size();
    }

    public int end(int n) {
        return tape.cut(n) ? n : NONE;
    }

    public int enter() {
        int number = documents.size();
        int wordsBefore = words.size();
        boolean fits = number < MOST_DOCUMENTS && intake.read() && intake.fits(postings, number);
        tape.clear();
        if (!fits) {
            words.forget(wordsBefore);
            return FULL;
        }
        intake.write(postings, number);
        documents.add(intake.kept(), intake.distinct());
        return number;
    }

    public boolean remove(int document) {
        return documents.takeOff(document);
    }

    public boolean mark(int document, int m) {
        return documents.setMark(document, m);
    }

    public int tidy() {
        if (spare == null) {
            spare = new Postings();
        }
        int before = postings.taken();
        spare.clear();
        int kept = 0;
        for (int id = 0; id < words.size(); id++) {
            reader.open(id);
            if (spare.copyOn(kept, reader, documents)) {
                kept++;
            } else {
                words.strike(id);
            }
        }
        words.closeRanks();
        postings.copyFrom(spare);
        return before - postings.taken();
    }

    public int stop(boolean on) {
        long word = tape.firstWord();
        tape.clear();
        if (word == 0) {
            return NONE;
        }
        int place = stops.rankOf(word);
        if (on && place == NONE && stops.add(word) == NONE) {
            return FULL;
        }
        if (!on && place != NONE) {
            stops.strike(stops.idAt(place));
            stops.closeRanks();
        }
        return stops.size();
    }

    public int document(int document, int what) throws IndexOutOfBoundsException {
        if (!documents.came(document)) {
            throw new IndexOutOfBoundsException("no such document");
        }
        switch (what) {
            case 0:
                return documents.isOn(document) ? 1 : 0;
            case 1:
                return documents.lengthOf(document);
            case 2:
                return documents.markOf(document);
            case 3:
                return documents.wordsOf(document);
            default:
                return NONE;
        }
    }

    public int look() {
        looked = tape.firstWord();
        tape.clear();
        return postings.documentsOf(words.idOf(looked));
    }

    public int posting(int what) {
        if (looked == NEVER_LOOKED || what < 0 || what > 4) {
            return NONE;
        }
        int place = words.rankOf(looked);
        if (place == NONE) {
            return 0;
        }
        int id = words.idAt(place);
        switch (what) {
            case 0:
                return postings.bitsOf(id);
            case 1:
                return Postings.chunksFor(postings.bitsOf(id));
            case 2:
                reader.open(id);
                return reader.tallyDocuments(documents);
            case 3:
                reader.open(id);
                return reader.tallyPlaces(documents);
            default:
                return place;
        }
    }

    public int bit(int i) throws IndexOutOfBoundsException {
        int id = words.idOf(looked);
        if (i < 0 || i >= postings.bitsOf(id)) {
            throw new IndexOutOfBoundsException("no such bit");
        }
        return postings.bitAt(id, i);
    }

    public int count(int what) {
        switch (what) {
            case 0:
                return documents.size();
            case 1:
                return documents.onShelf();
            case 2:
                return words.size();
            case 3:
                return postings.taken();
            case 4:
                return postings.allBits();
            case 5:
                return stops.size();
            case 6:
                return tape.size();
            default:
                return NONE;
        }
    }

    public int letter(int k, int i) throws IndexOutOfBoundsException {
        if (k < 0 || k >= words.size() || i < 0) {
            throw new IndexOutOfBoundsException("no such letter");
        }
        return Words.byteOf(words.wordAt(k), i);
    }

    public int search() {
        int fault = parser.read();
        tape.clear();
        if (fault != 0) {
            query.clear();
        }
        finder.find();
        return fault != 0 ? -fault : finder.found();
    }

    public int hit(int i) throws IndexOutOfBoundsException {
        if (i < 0) {
            throw new IndexOutOfBoundsException("a hit below 0");
        }
        return finder.numberAt(i);
    }

    public int rank(int i, int what) throws IndexOutOfBoundsException {
        if (i < 0 || i >= finder.found()) {
            throw new IndexOutOfBoundsException("no such rank");
        }
        switch (what) {
            case 0:
                return finder.rankedNumber(i);
            case 1:
                return finder.rankedScore(i);
            case 2:
                return finder.rankedPlace(i);
            default:
                return NONE;
        }
    }

    public int code(int i) throws IndexOutOfBoundsException {
        if (i < 0) {
            throw new IndexOutOfBoundsException("a step below 0");
        }
        return query.stepAt(i);
    }

    public int deepest() {
        return query.deepestStack();
    }

    public int nearest() {
        long told = tape.firstWord();
        tape.clear();
        long best = 0;
        int bestFar = MOST_FAR + 1;
        int bestKept = 0;
        for (int place = 0; told != 0 && place < words.size(); place++) {
            int far = words.distance(told, words.wordAt(place), Math.min(bestFar, MOST_FAR));
            if (far <= bestFar && far <= MOST_FAR) {
                reader.open(words.idAt(place));
                int kept = reader.tallyDocuments(documents);
                if (far < bestFar || kept > bestKept) {
                    best = words.wordAt(place);
                    bestFar = far;
                    bestKept = kept;
                }
            }
        }
        if (best == 0) {
            return NONE;
        }
        looked = best;
        return bestFar;
    }

    public int like(int document) throws IndexOutOfBoundsException {
        if (!documents.isOn(document)) {
            throw new IndexOutOfBoundsException("no such document on the shelf");
        }
        return finder.mostLike(document, reader);
    }

    private static int binaryDigits(int x) {
        return 32 - Integer.numberOfLeadingZeros(x);
    }

    /** How much a word weighs that so many of the documents on the shelf have. */
    private static int rarity(int onShelf, int having) {
        return having > 0 ? binaryDigits(16 * onShelf / having) : 0;
    }

    /** The bytes that were fed, and how tokens, words and numbers are read from them. */
    private static final class Tape {
        private final byte[] bytes = new byte[TAPE_BYTES];
        private final byte[] letters = new byte[WORD_BYTES];
        private int length = 0;
        private int lettersLength = 0;

        int size() {
            return length;
        }

        boolean hasRoom(int more) {
            return length + more <= TAPE_BYTES;
        }

        void put(int fourBytes) {
            for (int shift = 24; shift >= 0 && length < TAPE_BYTES; shift -= 8) {
                bytes[length] = (byte) (fourBytes >>> shift);
                length++;
            }
        }

        boolean cut(int n) {
            if (n < 0 || n > length) {
                return false;
            }
            length = n;
            return true;
        }

        void clear() {
            length = 0;
        }

        int at(int i) {
            return i >= 0 && i < length ? bytes[i] & 255 : NONE;
        }

        private static boolean isDigit(int b) {
            return b >= '0' && b <= '9';
        }

        private static int small(int b) {
            return b >= 'A' && b <= 'Z' ? b + 32 : b;
        }

        boolean inToken(int i) {
            if (i < 0 || i >= length) {
                return false;
            }
            int b = bytes[i];
            return b >= 'a' && b <= 'z' || b >= 'A' && b <= 'Z' || b >= '0' && b <= '9';
        }

        boolean startsToken(int i) {
            return inToken(i) && !inToken(i - 1);
        }

        /** Where the run of letters and digits ends that is at from (from itself if none is). */
        int tokenEnd(int from) {
            int end = from;
            while (end < length && inToken(end)) {
                end++;
            }
            return end;
        }

        int behindBlanks(int from) {
            int behind = Math.max(from, 0);
            while (behind < length && (bytes[behind] == ' ' || bytes[behind] == '\n')) {
                behind++;
            }
            return behind;
        }

        /** Whether a run of letters and digits is that text, however great its letters are. */
        boolean spells(int from, int end, String text) {
            if (end - from != text.length() || from < 0 || end > length) {
                return false;
            }
            for (int i = 0; i < text.length(); i++) {
                // 32 parts great letters from small ones, and is in each digit already.
                if ((bytes[from + i] | 32) != text.charAt(i)) {
                    return false;
                }
            }
            return true;
        }

        /** The number that stands there; NONE if it has other bytes, no digit or too many. */
        int digits(int from, int end, int most) {
            if (end <= from || end - from > most) {
                return NONE;
            }
            int value = 0;
            for (int i = from; i < end; i++) {
                if (!isDigit(at(i))) {
                    return NONE;
                }
                value = value * 10 + at(i) - '0';
            }
            return value;
        }

        /** The WORD of the first TOKEN, 0 if there is none. */
        long firstWord() {
            for (int i = 0; i < length; i++) {
                if (inToken(i)) {
                    return wordOf(i);
                }
            }
            return 0;
        }

        long wordOf(int from) {
            readLetters(from);
            shorten();
            return Words.pack(letters, lettersLength);
        }

        /** What a TOKEN with * begins by: its bytes, but nothing taken from its end. */
        long startOf(int from) {
            readLetters(from);
            return Words.pack(letters, lettersLength);
        }

        int lettersRead() {
            return lettersLength;
        }

        private void readLetters(int from) {
            lettersLength = 0;
            for (int i = 0; i < WORD_BYTES && inToken(from + i); i++) {
                letters[i] = (byte) small(at(from + i));
                lettersLength = i + 1;
            }
        }

        private void shorten() {
            if (hasDigit()) {
                return;
            }
            if (lettersLength >= 5 && endsBy("ies")) {
                lettersLength -= 2;
                letters[lettersLength - 1] = 'y';
            } else if (lettersLength >= 6 && endsBy("ing")) {
                lettersLength -= 3;
            } else if (lettersLength >= 5 && endsBy("ed")) {
                lettersLength -= 2;
            } else if (lettersLength >= 4 && endsBy("s") && !endsBy("ss") && !endsBy("us") && !endsBy("is")) {
                lettersLength--;
            }
        }

        private boolean hasDigit() {
            for (int i = 0; i < lettersLength; i++) {
                if (letters[i] <= '9') {
                    return true;
                }
            }
            return false;
        }

        private boolean endsBy(String text) {
            int from = lettersLength - text.length();
            if (from < 0) {
                return false;
            }
            for (int i = 0; i < text.length(); i++) {
                if (letters[from + i] != text.charAt(i)) {
                    return false;
                }
            }
            return true;
        }
    }

    /**
     * Words in the order of their bytes. A word is one long: its twelve bytes (0 behind the last)
     * are the digits of a number, so that the order of bytes is the order of numbers, and the
     * words with one beginning are the numbers between two bounds. An id stays with its word
     * when others come, so that what is kept of a word need not move.
     */
    private static final class Words {
        private static final long BASE = 37;

        private final int most;
        private final long[] sorted;
        private final int[] ids;
        private final int[] freshIds;
        private final byte[] lettersA = new byte[WORD_BYTES];
        private final byte[] lettersB = new byte[WORD_BYTES];
        private final int[] costs = new int[WORD_BYTES + 1];
        private int size = 0;

        Words(int capacity) {
            most = capacity;
            sorted = new long[capacity];
            ids = new int[capacity];
            freshIds = new int[capacity];
        }

        static long pack(byte[] letters, int length) {
            long word = 0;
            for (int i = 0; i < WORD_BYTES; i++) {
                word *= BASE;
                if (i < length && i < letters.length) {
                    word += letters[i] >= 'a' ? letters[i] - 'a' + 11 : letters[i] - '0' + 1;
                }
            }
            return word;
        }

        static int byteOf(long word, int i) {
            if (i < 0 || i >= WORD_BYTES) {
                return 0;
            }
            long rest = word;
            for (int behind = WORD_BYTES - 1; behind > i; behind--) {
                rest /= BASE;
            }
            int value = (int) (rest % BASE);
            if (value == 0) {
                return 0;
            }
            return value > 10 ? value - 11 + 'a' : value - 1 + '0';
        }

        /** The least number behind all words that begin with the bytes of start, so many. */
        static long behindStart(long start, int bytes) {
            long step = 1;
            for (int i = bytes; i < WORD_BYTES; i++) {
                step *= BASE;
            }
            return start + step;
        }

        int size() {
            return size;
        }

        int rankAhead(long word) {
            int low = 0;
            int high = size;
            while (low < high) {
                int middle = (low + high) / 2;
                if (sorted[middle] < word) {
                    low = middle + 1;
                } else {
                    high = middle;
                }
            }
            return low;
        }

        int rankOf(long word) {
            int place = rankAhead(word);
            return place < size && sorted[place] == word ? place : NONE;
        }

        int idAt(int place) {
            return place >= 0 && place < size ? ids[place] : NONE;
        }

        int idOf(long word) {
            return idAt(rankOf(word));
        }

        long wordAt(int place) {
            return place >= 0 && place < size ? sorted[place] : 0;
        }

        /** Puts in a word that isn't there: its id; NONE without room. */
        int add(long word) {
            if (size >= most) {
                return NONE;
            }
            int place = rankAhead(word);
            System.arraycopy(sorted, place, sorted, place + 1, size - place);
            System.arraycopy(ids, place, ids, place + 1, size - place);
            sorted[place] = word;
            ids[place] = size;
            size++;
            return size - 1;
        }

        /** Takes out the words that came when there were so many already. */
        void forget(int before) {
            if (before >= size) {
                return;
            }
            for (int id = before; id < size; id++) {
                strike(id);
            }
            closeRanks();
        }

        void strike(int id) {
            if (id >= 0 && id < size) {
                freshIds[id] = NONE;
            }
        }

        /** Takes out what was struck; the ids of the others close up and keep their order. */
        void closeRanks() {
            int kept = 0;
            for (int id = 0; id < size; id++) {
                if (freshIds[id] != NONE) {
                    freshIds[id] = kept;
                    kept++;
                }
            }
            int behind = 0;
            for (int place = 0; place < size; place++) {
                int id = freshIds[ids[place]];
                if (id != NONE) {
                    sorted[behind] = sorted[place];
                    ids[behind] = id;
                    behind++;
                }
            }
            Arrays.fill(freshIds, 0);
            size = kept;
        }

        /** How far two words are from one another; when above limit, any number above it. */
        int distance(long a, long b, int limit) {
            int lengthA = spell(a, lettersA);
            int lengthB = spell(b, lettersB);
            if (Math.abs(lengthA - lengthB) > limit) {
                return limit + 1;
            }
            for (int j = 0; j <= lengthB; j++) {
                costs[j] = j;
            }
            for (int i = 1; i <= lengthA; i++) {
                if (nextCosts(i, lengthB) > limit) {
                    return limit + 1;
                }
            }
            return costs[lengthB];
        }

        /** Brings the costs to the i-th byte of the first word; answers the least of them. */
        private int nextCosts(int i, int lengthB) {
            int slanting = costs[0];
            costs[0] = i;
            int least = i;
            for (int j = 1; j <= lengthB; j++) {
                int other = slanting + (lettersA[i - 1] == lettersB[j - 1] ? 0 : 1);
                slanting = costs[j];
                costs[j] = Math.min(other, Math.min(costs[j], costs[j - 1]) + 1);
                least = Math.min(least, costs[j]);
            }
            return least;
        }

        /** Writes the bytes of a word (0 to 36 for each) into a row; answers how many it has. */
        private static int spell(long word, byte[] row) {
            long rest = word;
            int length = 0;
            for (int i = WORD_BYTES - 1; i >= 0; i--) {
                row[i] = (byte) (rest % BASE);
                rest /= BASE;
                if (length == 0 && row[i] != 0) {
                    length = i + 1;
                }
            }
            return length;
        }
    }

    /** What is told of each document that came. */
    private static final class Documents {
        private final boolean[] on = new boolean[MOST_DOCUMENTS];
        private final int[] lengths = new int[MOST_DOCUMENTS];
        private final int[] marks = new int[MOST_DOCUMENTS];
        private final int[] wordCounts = new int[MOST_DOCUMENTS];
        private int size = 0;
        private int onShelf = 0;

        int size() {
            return size;
        }

        int onShelf() {
            return onShelf;
        }

        void add(int length, int wordCount) {
            if (size < MOST_DOCUMENTS) {
                on[size] = true;
                lengths[size] = length;
                wordCounts[size] = wordCount;
                size++;
                onShelf++;
            }
        }

        boolean came(int number) {
            return number >= 0 && number < size;
        }

        boolean isOn(int number) {
            return came(number) && on[number];
        }

        boolean takeOff(int number) {
            if (!isOn(number)) {
                return false;
            }
            on[number] = false;
            onShelf--;
            return true;
        }

        boolean setMark(int number, int m) {
            if (!isOn(number)) {
                return false;
            }
            marks[number] = m;
            return true;
        }

        int lengthOf(int number) {
            return came(number) ? lengths[number] : 0;
        }

        int markOf(int number) {
            return came(number) ? marks[number] : 0;
        }

        int wordsOf(int number) {
            return came(number) ? wordCounts[number] : 0;
        }
    }

    /** The postings of all words, by id, as chunks of one row of bits. */
    private static final class Postings {
        private static final int CHUNK_EXTRA = 16;
        private static final int MOST_CHUNKS = MOST_TAKEN / (32 + CHUNK_EXTRA);

        private final int[] row = new int[MOST_TAKEN / 32];
        private final int[] chunkStarts = new int[MOST_CHUNKS];
        private final int[] nextChunks = new int[MOST_CHUNKS];
        private final int[] firstChunks = new int[MOST_WORDS];
        private final int[] lastChunks = new int[MOST_WORDS];
        private final int[] bits = new int[MOST_WORDS];
        private final int[] holders = new int[MOST_WORDS];
        // One more than the number of the latest document, so that 0 stands for none.
        private final int[] behindLatest = new int[MOST_WORDS];
        private int chunks = 0;
        private int rowUsed = 0;
        private int allBits = 0;
        private int taken = 0;

        static int chunkOf(int bit) {
            if (bit < 96) {
                return bit < 32 ? 0 : 1;
            }
            return bit < 224 ? 2 : 3 + (bit - 224) / 256;
        }

        static int chunksFor(int bitCount) {
            return bitCount > 0 ? chunkOf(bitCount - 1) + 1 : 0;
        }

        static int bitsOfChunk(int which) {
            return which < 3 ? 32 << which : 256;
        }

        /** How many bits go into that many first chunks of a posting. */
        static int roomOf(int chunkCount) {
            return chunkCount <= 3 ? (32 << chunkCount) - 32 : 224 + 256 * (chunkCount - 3);
        }

        static int takenFor(int bitCount) {
            int chunkCount = chunksFor(bitCount);
            return roomOf(chunkCount) + CHUNK_EXTRA * chunkCount;
        }

        static int gammaBits(int number) {
            return 2 * binaryDigits(number) - 1;
        }

        private static boolean isId(int id) {
            return id >= 0 && id < MOST_WORDS;
        }

        int taken() {
            return taken;
        }

        int allBits() {
            return allBits;
        }

        int bitsOf(int id) {
            return isId(id) ? bits[id] : 0;
        }

        int documentsOf(int id) {
            return isId(id) ? holders[id] : 0;
        }

        int latestOf(int id) {
            return isId(id) ? behindLatest[id] - 1 : NONE;
        }

        int firstChunkOf(int id) {
            return isId(id) && bits[id] > 0 ? firstChunks[id] : NONE;
        }

        int chunkBehind(int chunk) {
            return chunk >= 0 && chunk < chunks ? nextChunks[chunk] : NONE;
        }

        int bitInChunk(int chunk, int i) {
            if (chunk < 0 || chunk >= chunks || i < 0) {
                return 0;
            }
            int place = chunkStarts[chunk] + i / 32;
            return place < row.length ? row[place] >>> 31 - i % 32 & 1 : 0;
        }

        int bitAt(int id, int i) {
            int which = chunkOf(i);
            int chunk = firstChunkOf(id);
            for (int ahead = 0; ahead < which; ahead++) {
                chunk = chunkBehind(chunk);
            }
            return bitInChunk(chunk, i - roomOf(which));
        }

        void clear() {
            Arrays.fill(row, 0);
            Arrays.fill(bits, 0);
            Arrays.fill(holders, 0);
            Arrays.fill(behindLatest, 0);
            chunks = 0;
            rowUsed = 0;
            allBits = 0;
            taken = 0;
        }

        void copyFrom(Postings other) {
            System.arraycopy(other.row, 0, row, 0, row.length);
            System.arraycopy(other.chunkStarts, 0, chunkStarts, 0, MOST_CHUNKS);
            System.arraycopy(other.nextChunks, 0, nextChunks, 0, MOST_CHUNKS);
            System.arraycopy(other.firstChunks, 0, firstChunks, 0, MOST_WORDS);
            System.arraycopy(other.lastChunks, 0, lastChunks, 0, MOST_WORDS);
            System.arraycopy(other.bits, 0, bits, 0, MOST_WORDS);
            System.arraycopy(other.holders, 0, holders, 0, MOST_WORDS);
            System.arraycopy(other.behindLatest, 0, behindLatest, 0, MOST_WORDS);
            chunks = other.chunks;
            rowUsed = other.rowUsed;
            allBits = other.allBits;
            taken = other.taken;
        }

        /** Starts what a document adds to a posting; its places are to come at once. */
        void startDocument(int id, int number, int places) {
            if (isId(id)) {
                append(id, number - latestOf(id));
                append(id, places);
                behindLatest[id] = number + 1;
                holders[id]++;
            }
        }

        void append(int id, int number) {
            int digits = binaryDigits(number);
            for (int i = 1; i < digits; i++) {
                appendBit(id, 0);
            }
            for (int i = digits - 1; i >= 0; i--) {
                appendBit(id, number >>> i & 1);
            }
        }

        private void appendBit(int id, int bit) {
            if (!isId(id)) {
                return;
            }
            int which = chunkOf(bits[id]);
            int inside = bits[id] - roomOf(which);
            if (inside == 0 && !addChunk(id, which)) {
                return;
            }
            row[chunkStarts[lastChunks[id]] + inside / 32] |= bit << 31 - inside % 32;
            bits[id]++;
            allBits++;
        }

        private boolean addChunk(int id, int which) {
            int size = bitsOfChunk(which);
            if (chunks >= MOST_CHUNKS || rowUsed + size / 32 > row.length) {
                return false;
            }
            if (which == 0) {
                firstChunks[id] = chunks;
            } else {
                nextChunks[lastChunks[id]] = chunks;
            }
            lastChunks[id] = chunks;
            chunkStarts[chunks] = rowUsed;
            nextChunks[chunks] = NONE;
            chunks++;
            rowUsed += size / 32;
            taken += size + CHUNK_EXTRA;
            return true;
        }

        /** Makes a posting of what a reader has of documents on the shelf; false when of none. */
        boolean copyOn(int id, Reader from, Documents documents) {
            boolean any = false;
            for (int i = 0; i < MOST_DOCUMENTS && from.nextDocument(); i++) {
                if (documents.isOn(from.number())) {
                    any = true;
                    startDocument(id, from.number(), from.places());
                    int ahead = -1;
                    for (int j = 0; j < from.places(); j++) {
                        int place = from.nextPlace();
                        append(id, place - ahead);
                        ahead = place;
                    }
                }
            }
            return any;
        }
    }

    /** Goes through one posting from its first bit to its last. */
    private static final class Reader {
        private final Postings postings;
        private int bitsLeft = 0;
        private int chunk = NONE;
        private int which = 0;
        private int inside = 0;
        private int number = NONE;
        private int places = 0;
        private int placesLeft = 0;
        private int place = NONE;

        Reader(Postings source) {
            postings = source;
        }

        void open(int id) {
            bitsLeft = postings.bitsOf(id);
            chunk = postings.firstChunkOf(id);
            which = 0;
            inside = 0;
            number = NONE;
            places = 0;
            placesLeft = 0;
        }

        /** Goes on to the next document that is in the posting; false when there is none. */
        boolean nextDocument() {
            for (int i = placesLeft; i > 0; i--) {
                gamma();
            }
            placesLeft = 0;
            places = 0;
            if (bitsLeft == 0) {
                number = MOST_DOCUMENTS;
                return false;
            }
            number += gamma();
            places = gamma();
            placesLeft = places;
            place = NONE;
            return true;
        }

        /** Goes on to that document or, if it isn't there, behind it; true if it is there. */
        boolean reaches(int document) {
            for (int i = 0; i < MOST_DOCUMENTS && number < document; i++) {
                nextDocument();
            }
            return number == document;
        }

        /** The document come to; none has MOST_DOCUMENTS, which stands behind the last. */
        int number() {
            return number;
        }

        int places() {
            return places;
        }

        int nextPlace() {
            if (placesLeft > 0) {
                placesLeft--;
                place += gamma();
            }
            return place;
        }

        int tallyDocuments(Documents documents) {
            int tally = 0;
            for (int i = 0; i < MOST_DOCUMENTS && nextDocument(); i++) {
                if (documents.isOn(number)) {
                    tally++;
                }
            }
            return tally;
        }

        int tallyPlaces(Documents documents) {
            int tally = 0;
            for (int i = 0; i < MOST_DOCUMENTS && nextDocument(); i++) {
                if (documents.isOn(number)) {
                    tally += places;
                }
            }
            return tally;
        }

        private int gamma() {
            int zeros = 0;
            while (zeros < 31 && bitsLeft > 0 && oneBit() == 0) {
                zeros++;
            }
            int value = 1;
            for (int i = 0; i < zeros; i++) {
                value = value << 1 | oneBit();
            }
            return value;
        }

        private int oneBit() {
            if (bitsLeft <= 0) {
                return 0;
            }
            if (inside == Postings.bitsOfChunk(which)) {
                chunk = postings.chunkBehind(chunk);
                which++;
                inside = 0;
            }
            int bit = postings.bitInChunk(chunk, inside);
            inside++;
            bitsLeft--;
            return bit;
        }
    }

    /** Reads a text from the tape: for each word that it keeps the chain of its places. */
    private static final class Intake {
        private final Tape tape;
        private final Words words;
        private final Words stops;
        private final int[] places = new int[MOST_TOKENS];
        private final int[] next = new int[MOST_TOKENS];
        private final int[] ids = new int[MOST_TOKENS];
        private final int[] firsts = new int[MOST_WORDS];
        private final int[] lasts = new int[MOST_WORDS];
        private final int[] times = new int[MOST_WORDS];
        private int kept = 0;
        private int distinct = 0;

        Intake(Tape source, Words known, Words left) {
            tape = source;
            words = known;
            stops = left;
        }

        int kept() {
            return kept;
        }

        int distinct() {
            return distinct;
        }

        /** False when the words don't fit; new ones are among the known words in any case. */
        boolean read() {
            clear();
            int place = 0;
            for (int at = 0; at < tape.size(); at++) {
                if (place < FIRST_OF_BODY && tape.at(at) == '\n') {
                    place = FIRST_OF_BODY;
                } else if (tape.startsToken(at)) {
                    if (!keep(tape.wordOf(at), place)) {
                        return false;
                    }
                    place++;
                }
            }
            return true;
        }

        private void clear() {
            Arrays.fill(times, 0);
            kept = 0;
            distinct = 0;
        }

        private boolean keep(long word, int place) {
            if (stops.rankOf(word) != NONE) {
                return true;
            }
            int id = words.idOf(word);
            if (id == NONE) {
                id = words.add(word);
            }
            if (id < 0 || id >= MOST_WORDS || kept >= MOST_TOKENS) {
                return false;
            }
            places[kept] = place;
            next[kept] = NONE;
            if (times[id] == 0) {
                firsts[id] = kept;
                ids[distinct] = id;
                distinct++;
            } else {
                next[lasts[id]] = kept;
            }
            lasts[id] = kept;
            times[id]++;
            kept++;
            return true;
        }

        boolean fits(Postings postings, int number) {
            int taken = postings.taken();
            for (int i = 0; i < distinct; i++) {
                int before = postings.bitsOf(ids[i]);
                int behind = before + bitsFor(ids[i], number - postings.latestOf(ids[i]));
                taken += Postings.takenFor(behind) - Postings.takenFor(before);
            }
            return taken <= MOST_TAKEN;
        }

        private int bitsFor(int id, int documentStep) {
            int bits = Postings.gammaBits(documentStep) + Postings.gammaBits(times[id]);
            int ahead = -1;
            int token = firsts[id];
            for (int i = 0; i < times[id]; i++) {
                bits += Postings.gammaBits(places[token] - ahead);
                ahead = places[token];
                token = next[token];
            }
            return bits;
        }

        void write(Postings postings, int number) {
            for (int i = 0; i < distinct; i++) {
                int id = ids[i];
                postings.startDocument(id, number, times[id]);
                int ahead = -1;
                int token = firsts[id];
                for (int j = 0; j < times[id]; j++) {
                    postings.append(id, places[token] - ahead);
                    ahead = places[token];
                    token = next[token];
                }
            }
        }
    }

    /** The code of a query and its leaves; words stand in it by their rank among the words. */
    private static final class Query {
        // A step needs four bytes of the tape at least, but for leaves and what joins them.
        private static final int MOST_STEPS = TAPE_BYTES / 4 + 3 * MOST_LEAVES;

        private final int[] kinds = new int[MOST_LEAVES];
        private final int[] lows = new int[MOST_LEAVES];
        private final int[] highs = new int[MOST_LEAVES];
        private final int[] sides = new int[MOST_LEAVES];
        private final boolean[] counted = new boolean[MOST_LEAVES];
        private final int[] phrases = new int[MOST_PHRASE_WORDS];
        private final int[] steps = new int[MOST_STEPS];
        private int leaves = 0;
        private int phraseWords = 0;
        private int length = 0;
        private int depth = 0;
        private int deepest = 0;

        void clear() {
            leaves = 0;
            phraseWords = 0;
            length = 0;
            depth = 0;
            deepest = 0;
        }

        int leaves() {
            return leaves;
        }

        int phraseWords() {
            return phraseWords;
        }

        int length() {
            return length;
        }

        int deepestStack() {
            return deepest;
        }

        int stepAt(int i) {
            return i >= 0 && i < length ? steps[i] : NONE;
        }

        private static boolean isLeaf(int leaf) {
            return leaf >= 0 && leaf < MOST_LEAVES;
        }

        int kindOf(int leaf) {
            return isLeaf(leaf) ? kinds[leaf] : NONE;
        }

        /** The first rank, index among the words of phrases, or mark; highOf: the bound. */
        int lowOf(int leaf) {
            return isLeaf(leaf) ? lows[leaf] : 0;
        }

        int highOf(int leaf) {
            return isLeaf(leaf) ? highs[leaf] : 0;
        }

        int sidesOf(int leaf) {
            return isLeaf(leaf) ? sides[leaf] : 0;
        }

        boolean isCounted(int leaf) {
            return isLeaf(leaf) && counted[leaf];
        }

        int phraseWord(int i) {
            return i >= 0 && i < phraseWords ? phrases[i] : WANTS_NOTHING;
        }

        void addPhraseWord(int wanted) {
            if (phraseWords < MOST_PHRASE_WORDS) {
                phrases[phraseWords] = wanted;
                phraseWords++;
            }
        }

        void addLeaf(int kind, int low, int high, int side, boolean counts) {
            if (leaves < MOST_LEAVES) {
                kinds[leaves] = kind;
                lows[leaves] = low;
                highs[leaves] = high;
                sides[leaves] = side;
                counted[leaves] = counts;
                addStep(kind, leaves);
                leaves++;
                depth++;
                deepest = Math.max(deepest, depth);
            }
        }

        void addStep(int what, int which) {
            if (length < MOST_STEPS) {
                steps[length] = STEP_FACTOR * what + which;
                length++;
            }
        }

        /** A step that makes one number of two. */
        void addJoint(int what, int which) {
            addStep(what, which);
            depth--;
        }
    }

    /** Reads the tape as a query, one lexeme ahead; after the first fault it stands still. */
    private static final class Parser {
        private static final int SYNTAX = 1;
        private static final int RANGE = 2;
        private static final int ROOM = 3;
        private static final int KIND = 4;

        private static final int MOST_OPEN = 12;
        private static final int MOST_NOTS = 40;
        private static final int MOST_SIDES = 12;
        private static final int MOST_APART = 200;
        private static final int BELOW_ALL_INTS = -1000000000;
        private static final int QUOTE = 34;

        // Sorts of lexemes, behind those of one byte, whose sort is that byte.
        private static final int END = 256;
        private static final int TOKEN = 257;
        private static final int OR = 258;
        private static final int AND = 259;
        private static final int NOT = 260;
        private static final int NEAR = 261;
        private static final int TITLE = 262;
        private static final int BODY = 263;
        private static final int DOTS = 264;
        private static final int STUCK = 265;

        private final Tape tape;
        private final Words words;
        private final Words stops;
        private final Query query;
        private int sort = END;
        private int start = 0;
        private int behind = 0;
        private int fault = 0;
        // A near whose units are wrong, but the second may still go on by a *; NONE without.
        private int doubtedNear = NONE;
        private boolean endsByToken = false;
        private int nots = 0;
        private int open = 0;

        Parser(Tape source, Words known, Words left, Query made) {
            tape = source;
            words = known;
            stops = left;
            query = made;
        }

        /** 1000 times the fault and its place and 1; 0 without a fault. */
        int read() {
            query.clear();
            sort = END;
            behind = 0;
            fault = 0;
            doubtedNear = NONE;
            nots = 0;
            open = 0;
            next();
            readQuery();
            if (sort == END) {
                settleNear();
            } else {
                fail(SYNTAX, start);
            }
            return fault;
        }

        private void fail(int number, int place) {
            if (fault == 0) {
                fault = STEP_FACTOR * number + place + 1;
            }
            sort = STUCK;
        }

        /** A fault of the lexeme that ends a doubt is less than KIND, so it is told ahead of this. */
        private void settleNear() {
            if (doubtedNear != NONE) {
                fail(KIND, doubtedNear);
            }
        }

        /** Takes the lexeme that is there for right, and goes on to the next one. */
        private void next() {
            settleNear();
            if (sort == STUCK) {
                return;
            }
            start = tape.behindBlanks(behind);
            int first = tape.at(start);
            behind = start + 1;
            if (first == NONE) {
                sort = END;
            } else if (tape.inToken(start)) {
                behind = tape.tokenEnd(start);
                sort = sortOfRun();
            } else if (first == '.' && tape.at(start + 1) == '.') {
                behind = start + 2;
                sort = DOTS;
            } else {
                sort = first;
            }
        }

        private int sortOfRun() {
            if (tape.spells(start, behind, "or")) {
                return OR;
            }
            if (tape.spells(start, behind, "and")) {
                return AND;
            }
            if (tape.spells(start, behind, "not")) {
                return NOT;
            }
            if (tape.spells(start, behind, "near")) {
                return NEAR;
            }
            boolean title = tape.spells(start, behind, "title");
            int colon = tape.behindBlanks(behind);
            if ((title || tape.spells(start, behind, "body")) && tape.at(colon) == ':') {
                behind = colon + 1;
                return title ? TITLE : BODY;
            }
            return TOKEN;
        }

        private void readQuery() {
            readAll();
            for (int i = 0; i < TAPE_BYTES && sort == OR; i++) {
                next();
                readAll();
                query.addJoint(STEP_OR, 0);
            }
        }

        private void readAll() {
            if (readNots()) {
                query.addStep(STEP_NOT, 0);
            }
            for (int i = 0; i < TAPE_BYTES && goesOn(); i++) {
                if (sort == AND) {
                    next();
                }
                query.addJoint(readNots() ? STEP_LESS : STEP_AND, 0);
            }
        }

        private boolean goesOn() {
            switch (sort) {
                case AND:
                case NOT:
                case TOKEN:
                case TITLE:
                case BODY:
                case QUOTE:
                case '(':
                case '[':
                    return true;
                default:
                    return false;
            }
        }

        /** Answers whether a not is left. */
        private boolean readNots() {
            boolean left = false;
            for (int i = 0; i <= MOST_NOTS && sort == NOT; i++) {
                if (i == MOST_NOTS) {
                    fail(ROOM, start);
                }
                next();
                left = !left;
            }
            nots += left ? 1 : 0;
            readNear();
            nots -= left ? 1 : 0;
            return left;
        }

        private void readNear() {
            boolean places = readUnit();
            if (sort != NEAR) {
                return;
            }
            int near = start;
            next();
            int apart = readApart();
            places = readUnit() && places;
            if (!places && endsByToken) {
                doubtedNear = near;
            } else if (!places) {
                fail(KIND, near);
            }
            query.addJoint(STEP_NEAR, apart);
        }

        private int readApart() {
            int apart = sort == TOKEN ? tape.digits(start, behind, 3) : NONE;
            if (apart == NONE) {
                fail(SYNTAX, start);
            } else if (apart < 1 || apart > MOST_APART) {
                fail(RANGE, start);
            }
            next();
            return apart;
        }

        /** Answers whether the unit has places. */
        private boolean readUnit() {
            int side = IN_TITLE | IN_BODY;
            int innermost = NONE;
            int chain = 0;
            int links = 0;
            for (int i = 0; i <= MOST_SIDES && (sort == TITLE || sort == BODY); i++) {
                if (i == MOST_SIDES) {
                    fail(ROOM, start);
                }
                side &= sort == TITLE ? IN_TITLE : IN_BODY;
                chain = chain * 2 + (sort == TITLE ? 0 : 1);
                links++;
                innermost = start;
                next();
            }
            boolean places = readBare(side);
            if (links > 0 && !places) {
                fail(KIND, innermost);
            }
            for (int i = 0; i < links; i++) {
                query.addStep((chain >>> i & 1) == 0 ? STEP_TITLE : STEP_BODY, 0);
            }
            return places;
        }

        private boolean readBare(int side) {
            switch (sort) {
                case '(':
                    readGroup();
                    return false;
                case '[':
                    readMarks();
                    return false;
                case QUOTE:
                    readPhrase(side);
                    return true;
                case TOKEN:
                    readToken(side);
                    return true;
                default:
                    fail(SYNTAX, start);
                    return false;
            }
        }

        private void readGroup() {
            if (open >= MOST_OPEN) {
                fail(ROOM, start);
                return;
            }
            open++;
            next();
            readQuery();
            take(')');
            open--;
            endsByToken = false;
        }

        private void take(int wanted) {
            if (sort != wanted) {
                fail(SYNTAX, start);
            }
            next();
        }

        private void readMarks() {
            testLeafRoom();
            next();
            int low = readInt(BELOW_ALL_INTS);
            take(DOTS);
            int high = readInt(low);
            take(']');
            query.addLeaf(MARKS_LEAF, low, high, 0, false);
            endsByToken = false;
        }

        private void testLeafRoom() {
            if (query.leaves() >= MOST_LEAVES) {
                fail(ROOM, start);
            }
        }

        private int readInt(int least) {
            boolean minus = sort == '-';
            int from = minus ? behind : start;
            int end = tape.tokenEnd(from);
            int value = minus || sort == TOKEN ? tape.digits(from, end, 9) : NONE;
            if (value == NONE) {
                fail(SYNTAX, start);
                return 0;
            }
            value = minus ? -value : value;
            if (value < least) {
                fail(RANGE, start);
            }
            behind = end;
            next();
            return value;
        }

        private void readToken(int side) {
            testLeafRoom();
            int token = start;
            next();
            endsByToken = sort != '*';
            if (endsByToken) {
                int place = wantedWord(token);
                query.addLeaf(TOKEN_LEAF, place, place + 1, side, nots == 0);
            } else {
                long low = tape.startOf(token);
                long high = Words.behindStart(low, tape.lettersRead());
                query.addLeaf(START_LEAF, words.rankAhead(low), words.rankAhead(high), side, nots == 0);
                next();
            }
        }

        private void readPhrase(int side) {
            testLeafRoom();
            settleNear();
            int first = query.phraseWords();
            for (int at = behind; at < tape.size() && sort == QUOTE; at++) {
                if (tape.at(at) == QUOTE) {
                    closePhrase(first, at, side);
                    return;
                }
                if (tape.startsToken(at) && query.phraseWords() >= MOST_PHRASE_WORDS) {
                    fail(ROOM, at);
                } else if (tape.startsToken(at)) {
                    query.addPhraseWord(wantedWord(at));
                }
            }
            fail(SYNTAX, tape.size());
        }

        private void closePhrase(int first, int at, int side) {
            if (query.phraseWords() == first) {
                fail(SYNTAX, at);
            }
            query.addLeaf(PHRASE_LEAF, first, query.phraseWords(), side, nots == 0);
            endsByToken = false;
            behind = at + 1;
            next();
        }

        /** The rank of the word of a token, or that it is a stop word or none that is known. */
        private int wantedWord(int token) {
            long word = tape.wordOf(token);
            if (stops.rankOf(word) != NONE) {
                return WANTS_NOTHING;
            }
            int place = words.rankOf(word);
            return place == NONE ? WANTS_UNKNOWN : place;
        }
    }

    /** A set of places of one document. */
    private static final class Places {
        private static final int INTS = PLACES_END / 32;
        private static final int BODY_INT = FIRST_OF_BODY / 32;
        private static final int TITLE_WORTH = 3;
        private static final int SHOWN_MASK = (1 << 10) - 1;

        private final int[] row = new int[INTS];

        void clear() {
            Arrays.fill(row, 0);
        }

        void clearTitle() {
            for (int i = 0; i < BODY_INT; i++) {
                row[i] = 0;
            }
        }

        void clearBody() {
            for (int i = BODY_INT; i < INTS; i++) {
                row[i] = 0;
            }
        }

        void put(int place) {
            if (place >= 0 && place < PLACES_END) {
                row[place / 32] |= 1 << place % 32;
            }
        }

        void putAll(Places other) {
            for (int i = 0; i < INTS; i++) {
                row[i] |= other.row[i];
            }
        }

        /** The first place from there on; NONE when there is none. */
        int nextFrom(int from) {
            if (from < 0 || from >= PLACES_END) {
                return NONE;
            }
            int here = row[from / 32] & -1 << from % 32;
            for (int i = from / 32; i < INTS; i++) {
                if (i > from / 32) {
                    here = row[i];
                }
                if (here != 0) {
                    return i * 32 + Integer.numberOfTrailingZeros(here);
                }
            }
            return NONE;
        }

        /** How many there are, those in the title three times. */
        int worth() {
            int worth = 0;
            for (int i = 0; i < INTS; i++) {
                worth += Integer.bitCount(row[i]) * (i < BODY_INT ? TITLE_WORTH : 1);
            }
            return worth;
        }

        boolean isNear(Places other, int apart) {
            int place = nextFrom(0);
            for (int i = 0; i < PLACES_END && place != NONE; i++) {
                int low = place < FIRST_OF_BODY ? 0 : FIRST_OF_BODY;
                int bound = place < FIRST_OF_BODY ? FIRST_OF_BODY : PLACES_END;
                int met = other.nextFrom(Math.max(low, place - apart));
                if (met != NONE && met < bound && met <= place + apart) {
                    return true;
                }
                place = nextFrom(place + 1);
            }
            return false;
        }

        /** The least place of those that have most of them on the ten places from there on. */
        int fullest() {
            int best = NONE;
            int most = 0;
            int place = nextFrom(0);
            for (int i = 0; i < PLACES_END && place != NONE; i++) {
                int standing = Integer.bitCount(tenFrom(place));
                if (standing > most) {
                    most = standing;
                    best = place;
                }
                place = nextFrom(place + 1);
            }
            return best;
        }

        private int tenFrom(int place) {
            int which = place / 32;
            long two = row[which] & 0xFFFFFFFFL;
            if (which + 1 < INTS) {
                two |= (long) row[which + 1] << 32;
            }
            return (int) (two >>> place % 32) & SHOWN_MASK;
        }
    }

    /** The words that a query asks for, as they stand in one document after the other. */
    private static final class Page {
        private final Words words;
        private final Postings postings;
        private final Query query;
        private final Reader[] readers = new Reader[MOST_WORDS];
        private final int[] ranks = new int[MOST_WORDS];
        private final boolean[] wanted = new boolean[MOST_WORDS];
        private final int[] standing = new int[PLACES_END];
        private final int[] seen = new int[MOST_TOKENS];
        private int opened = 0;
        private int seenCount = 0;

        Page(Words known, Postings source, Query asked) {
            words = known;
            postings = source;
            query = asked;
            Arrays.fill(standing, NONE);
        }

        void open() {
            for (int i = 0; i < opened; i++) {
                wanted[ranks[i]] = false;
            }
            opened = 0;
            for (int leaf = 0; leaf < query.leaves(); leaf++) {
                int kind = query.kindOf(leaf);
                for (int i = query.lowOf(leaf); kind != MARKS_LEAF && i < query.highOf(leaf); i++) {
                    want(kind == PHRASE_LEAF ? query.phraseWord(i) : i);
                }
            }
        }

        private void want(int word) {
            if (word < 0 || word >= words.size() || wanted[word] || opened >= MOST_WORDS) {
                return;
            }
            wanted[word] = true;
            if (readers[opened] == null) {
                readers[opened] = new Reader(postings);
            }
            readers[opened].open(words.idAt(word));
            ranks[opened] = word;
            opened++;
        }

        /** Pages are turned forward alone: documents come by number. */
        void turnTo(int document) {
            for (int i = 0; i < seenCount; i++) {
                standing[seen[i]] = NONE;
            }
            seenCount = 0;
            for (int i = 0; i < opened; i++) {
                Reader reader = readers[i];
                if (reader != null && reader.reaches(document)) {
                    for (int j = 0; j < reader.places(); j++) {
                        see(reader.nextPlace(), ranks[i]);
                    }
                }
            }
        }

        private void see(int place, int word) {
            if (place >= 0 && place < PLACES_END && seenCount < MOST_TOKENS) {
                standing[place] = word;
                seen[seenCount] = place;
                seenCount++;
            }
        }

        private int wordAt(int place) {
            return place >= 0 && place < PLACES_END ? standing[place] : NONE;
        }

        /** Where a leaf matches, by all title and body around it. */
        void gather(int leaf, Places places) {
            places.clear();
            int side = query.sidesOf(leaf);
            if (query.kindOf(leaf) == PHRASE_LEAF) {
                gatherPhrase(query.lowOf(leaf), query.highOf(leaf), places);
            } else if (query.kindOf(leaf) != MARKS_LEAF) {
                gatherWords(query.lowOf(leaf), query.highOf(leaf), places);
            }
            if ((side & IN_TITLE) == 0) {
                places.clearTitle();
            }
            if ((side & IN_BODY) == 0) {
                places.clearBody();
            }
        }

        private void gatherWords(int low, int high, Places places) {
            for (int i = 0; i < seenCount; i++) {
                int word = wordAt(seen[i]);
                if (word >= low && word < high) {
                    places.put(seen[i]);
                }
            }
        }

        private void gatherPhrase(int low, int high, Places places) {
            int sure = low;
            while (sure < high && query.phraseWord(sure) == WANTS_NOTHING) {
                sure++;
            }
            for (int i = 0; sure < high && i < seenCount; i++) {
                int first = seen[i] - (sure - low);
                boolean inside = first >= (seen[i] < FIRST_OF_BODY ? 0 : FIRST_OF_BODY);
                if (inside && standsFrom(first, low, high)) {
                    places.put(first);
                }
            }
        }

        // No phrase that begins in a title reaches the body: 512 is too far behind.
        private boolean standsFrom(int first, int low, int high) {
            for (int i = low; i < high; i++) {
                int word = query.phraseWord(i);
                if (word != WANTS_NOTHING && wordAt(first + i - low) != word) {
                    return false;
                }
            }
            return true;
        }
    }

    /** Works the code for each document, and keeps what was found. */
    private static final class Finder {
        private final Documents documents;
        private final Words words;
        private final Query query;
        private final Page page;
        private final Places[] places = new Places[MOST_LEAVES];
        private final Places shown = new Places();
        private final boolean[] matched = new boolean[MOST_LEAVES];
        private final boolean[] stack = new boolean[MOST_LEAVES];
        private final int[] having = new int[MOST_LEAVES];
        private final int[] numbers = new int[MOST_DOCUMENTS];
        private final int[] shownAt = new int[MOST_DOCUMENTS];
        private final int[] scores = new int[MOST_DOCUMENTS];
        private final int[] ranked = new int[MOST_DOCUMENTS];
        private final int[] sums = new int[MOST_DOCUMENTS];
        private final int[] times = new int[MOST_DOCUMENTS];
        // For each leaf what it is worth in each document; made longer, in few steps, as queries
        // ask for it, since most have few leaves.
        private int[] worths = new int[0];
        private int found = 0;

        Finder(Documents shelf, Words known, Postings source, Query asked) {
            documents = shelf;
            words = known;
            query = asked;
            page = new Page(known, source, asked);
        }

        int found() {
            return found;
        }

        int numberAt(int i) {
            return i >= 0 && i < found ? numbers[i] : NONE;
        }

        int rankedNumber(int i) {
            return i >= 0 && i < found ? numbers[ranked[i]] : NONE;
        }

        int rankedScore(int i) {
            return i >= 0 && i < found ? scores[ranked[i]] : NONE;
        }

        int rankedPlace(int i) {
            return i >= 0 && i < found ? shownAt[ranked[i]] : NONE;
        }

        void find() {
            found = 0;
            prepare();
            for (int document = 0; query.length() > 0 && document < documents.size(); document++) {
                if (documents.isOn(document)) {
                    page.turnTo(document);
                    matchLeaves(document);
                    if (works()) {
                        keep(document);
                    }
                }
            }
            for (int i = 0; i < found; i++) {
                scores[i] = score(numbers[i]);
                putInRank(i);
            }
        }

        private void prepare() {
            page.open();
            if (worths.length < query.leaves() * MOST_DOCUMENTS) {
                worths = new int[(query.leaves() + 9) / 10 * 10 * MOST_DOCUMENTS];
            }
            for (int leaf = 0; leaf < query.leaves(); leaf++) {
                having[leaf] = 0;
                if (places[leaf] == null) {
                    places[leaf] = new Places();
                }
            }
        }

        private void matchLeaves(int document) {
            for (int leaf = 0; leaf < query.leaves(); leaf++) {
                if (query.kindOf(leaf) == MARKS_LEAF) {
                    int mark = documents.markOf(document);
                    matched[leaf] = mark >= query.lowOf(leaf) && mark <= query.highOf(leaf);
                } else {
                    matchPlaces(leaf, document);
                }
            }
        }

        private void matchPlaces(int leaf, int document) {
            Places here = places[leaf];
            int index = leaf * MOST_DOCUMENTS + document;
            if (here == null || index >= worths.length) {
                return;
            }
            page.gather(leaf, here);
            worths[index] = here.worth();
            matched[leaf] = worths[index] > 0;
            having[leaf] += matched[leaf] ? 1 : 0;
        }

        private boolean works() {
            int height = 0;
            int leaf = NONE;
            for (int i = 0; i < query.length(); i++) {
                int what = query.stepAt(i) / STEP_FACTOR;
                int which = query.stepAt(i) % STEP_FACTOR;
                if (what <= MARKS_LEAF && height < MOST_LEAVES && which < MOST_LEAVES) {
                    leaf = which;
                    stack[height] = matched[leaf];
                    height++;
                } else if (what == STEP_NOT && height > 0) {
                    stack[height - 1] = !stack[height - 1];
                } else if (what == STEP_NEAR && height > 1) {
                    height--;
                    stack[height - 1] = areNear(leaf - 1, leaf, which);
                } else if (what >= STEP_AND && height > 1) {
                    height--;
                    stack[height - 1] = joined(what, stack[height - 1], stack[height]);
                }
            }
            return height == 1 && stack[0];
        }

        // What near stands over are always the two leaves that came latest, and the places of a
        // leaf are left by title and body already: these two steps find nothing to do.
        private boolean areNear(int a, int b, int apart) {
            if (a < 0 || b >= MOST_LEAVES || places[a] == null || places[b] == null) {
                return false;
            }
            return places[a].isNear(places[b], apart);
        }

        private static boolean joined(int what, boolean a, boolean b) {
            switch (what) {
                case STEP_AND:
                    return a && b;
                case STEP_OR:
                    return a || b;
                default:
                    return a && !b;
            }
        }

        private void keep(int document) {
            if (found >= MOST_DOCUMENTS) {
                return;
            }
            shown.clear();
            for (int leaf = 0; leaf < query.leaves(); leaf++) {
                if (query.isCounted(leaf) && places[leaf] != null) {
                    shown.putAll(places[leaf]);
                }
            }
            numbers[found] = document;
            shownAt[found] = shown.fullest();
            found++;
        }

        private int score(int document) {
            int score = 0;
            for (int leaf = 0; leaf < query.leaves(); leaf++) {
                int index = leaf * MOST_DOCUMENTS + document;
                if (query.isCounted(leaf) && index < worths.length) {
                    int f = worths[index];
                    int weight = 100 * f / (f + 1 + documents.lengthOf(document) / 8);
                    score += weight * rarity(documents.onShelf(), having[leaf]);
                }
            }
            return score;
        }

        /** The hits ahead of this one are ranked already, and those of its score go ahead. */
        private void putInRank(int hit) {
            int place = hit;
            while (place > 0 && scores[ranked[place - 1]] < scores[hit]) {
                ranked[place] = ranked[place - 1];
                place--;
            }
            ranked[place] = hit;
        }

        int mostLike(int document, Reader reader) {
            Arrays.fill(sums, 0);
            for (int place = 0; place < words.size(); place++) {
                reader.open(words.idAt(place));
                addAlike(document, reader);
            }
            int best = NONE;
            for (int other = 0; other < MOST_DOCUMENTS; other++) {
                if (sums[other] > (best == NONE ? 0 : sums[best])) {
                    best = other;
                }
            }
            return best;
        }

        /** Adds to the sums of all others what one word, in the reader, has in common with them. */
        private void addAlike(int document, Reader reader) {
            Arrays.fill(times, 0);
            int keeping = 0;
            for (int i = 0; i < MOST_DOCUMENTS && reader.nextDocument(); i++) {
                if (documents.isOn(reader.number())) {
                    times[reader.number()] = reader.places();
                    keeping++;
                }
            }
            int weight = rarity(documents.onShelf(), keeping);
            for (int other = 0; other < documents.size() && times[document] > 0; other++) {
                if (other != document) {
                    sums[other] += Math.min(times[other], times[document]) * weight;
                }
            }
        }
    }
}
