import java.util.Arrays;

/** A store of eight logical pages on a small flash memory whose words mend up to three wrong bits. */
public final class FlashStore {
    private static final int BLOCKS = 4;
    private static final int BLOCK_PAGES = 4;
    private static final int PLACES = BLOCKS * BLOCK_PAGES;
    private static final int LOGICAL_PAGES = 8;
    private static final int NONE = -1;

    private static final int FREE = 0;
    private static final int USED = 1;
    private static final int OLD = 2;

    private static final int FREE_TAG = 65535;
    private static final int SERIAL_BITS = 12;
    private static final int SERIAL_MASK = (1 << SERIAL_BITS) - 1;
    private static final int SERIALS = 4095;
    private static final int NEWER_SPAN = 2000;

    /** Far above need: after two cleanings a write always leaves a block free. */
    private static final int MOST_CLEANINGS = 16;

    private final Flash memory = new Flash();
    /** For each place of the flash (4 * block + page): free, used or old. */
    private final int[] states = new int[PLACES];
    /** For each logical page: its place, or none. */
    private final int[] places = new int[LOGICAL_PAGES];
    /** For each logical page: the serial that mounting took it with. */
    private final int[] takenSerials = new int[LOGICAL_PAGES];
    private int nextSerial = 0;
    private int lastMended = 0;

    public FlashStore() {
        Arrays.fill(states, FREE);
        Arrays.fill(places, NONE);
    }

    public int encode(int data) throws IllegalArgumentException {
        if (data < 0 || data > Code.MOST_DATA) {
            throw new IllegalArgumentException("data is not 0 .. 65535");
        }
        return Code.codewordOf(data);
    }

    public int decode(int word) throws IllegalArgumentException, ArithmeticException {
        if (word < 0) {
            throw new IllegalArgumentException("a word has 31 bits");
        }
        int codeword = Code.mend(word);
        if (codeword == Code.LOST) {
            throw new ArithmeticException("the word is lost");
        }
        lastMended = Integer.bitCount(word ^ codeword);
        return Code.dataOf(codeword);
    }

    public int mended() {
        return lastMended;
    }

    public void write(int page, long content) throws IllegalArgumentException, IllegalStateException {
        requireLogicalPage(page);
        for (int round = 0; round < MOST_CLEANINGS && !leavesBlockFree(); round++) {
            int block = blockToClean();
            if (block == NONE) {
                throw new IllegalStateException("the store is full");
            }
            cleanBlock(block);
        }
        put(page, content, NONE);
    }

    public long read(int page) throws IllegalArgumentException, IllegalStateException, ArithmeticException {
        requireLogicalPage(page);
        int place = places[page];
        if (place == NONE) {
            throw new IllegalStateException("the logical page has nothing");
        }
        if (!memory.isReadable(place)) {
            throw new ArithmeticException("a word of the page is lost");
        }
        return memory.contentAt(place);
    }

    public boolean trim(int page) throws IllegalArgumentException {
        requireLogicalPage(page);
        boolean had = places[page] != NONE;
        forget(page);
        return had;
    }

    public void spoil(int block, int page, int word, int bits) throws IllegalArgumentException {
        requireWord(block, page, word);
        if (bits < 0) {
            throw new IllegalArgumentException("a word has 31 bits");
        }
        memory.turnOver(placeOf(block, page), word, bits);
    }

    public int flash(int block, int page, int word) throws IllegalArgumentException {
        requireWord(block, page, word);
        return memory.wordAt(placeOf(block, page), word);
    }

    public int mount() {
        Arrays.fill(places, NONE);
        int newest = NONE;
        for (int place = 0; place < PLACES; place++) {
            int tag = memory.tagAt(place);
            if (tag == FREE_TAG) {
                states[place] = FREE;
            } else if (isSpoilt(tag)) {
                states[place] = OLD;
            } else {
                int serial = tag & SERIAL_MASK;
                take(place, tag >>> SERIAL_BITS, serial);
                newest = newest == NONE || isNewer(serial, newest) ? serial : newest;
            }
        }
        nextSerial = newest == NONE ? 0 : serialBehind(newest);
        return countHeld();
    }

    public int clean() throws IllegalStateException {
        int block = blockToClean();
        if (block == NONE) {
            throw new IllegalStateException("no block can be cleaned");
        }
        cleanBlock(block);
        return block;
    }

    public int place(int page) throws IllegalArgumentException {
        requireLogicalPage(page);
        return places[page];
    }

    public int state(int block, int page) throws IllegalArgumentException {
        requireBlock(block);
        requirePageOfBlock(page);
        return states[placeOf(block, page)];
    }

    public int wear(int block) throws IllegalArgumentException {
        requireBlock(block);
        return memory.erasuresOf(block);
    }

    public int serial() {
        return nextSerial;
    }

    private static void requireLogicalPage(int page) {
        if (page < 0 || page >= LOGICAL_PAGES) {
            throw new IllegalArgumentException("there is no such logical page");
        }
    }

    private static void requireBlock(int block) {
        if (block < 0 || block >= BLOCKS) {
            throw new IllegalArgumentException("there is no such block");
        }
    }

    private static void requirePageOfBlock(int page) {
        if (page < 0 || page >= BLOCK_PAGES) {
            throw new IllegalArgumentException("there is no such page of a block");
        }
    }

    private static void requireWord(int block, int page, int word) {
        requireBlock(block);
        requirePageOfBlock(page);
        if (word < 0 || word >= Flash.WORDS) {
            throw new IllegalArgumentException("there is no such word of a page");
        }
    }

    private static int placeOf(int block, int page) {
        return block * BLOCK_PAGES + page;
    }

    private static int blockOf(int place) {
        return place / BLOCK_PAGES;
    }

    private static boolean isSpoilt(int tag) {
        return tag == Code.LOST || tag >>> SERIAL_BITS >= LOGICAL_PAGES;
    }

    private static boolean isNewer(int serial, int other) {
        int ahead = Math.floorMod(serial - other, SERIALS);
        return ahead >= 1 && ahead <= NEWER_SPAN;
    }

    private static int serialBehind(int serial) {
        return (serial + 1) % SERIALS;
    }

    /** Mounting: a page whose tag names a logical page is used, or old when it is no newer than one before it. */
    private void take(int place, int page, int serial) {
        if (places[page] != NONE && !isNewer(serial, takenSerials[page])) {
            states[place] = OLD;
            return;
        }
        forget(page);
        hold(page, place);
        takenSerials[page] = serial;
    }

    private void hold(int page, int place) {
        states[place] = USED;
        places[page] = place;
    }

    private void forget(int page) {
        if (places[page] != NONE) {
            states[places[page]] = OLD;
            places[page] = NONE;
        }
    }

    private int countHeld() {
        int held = 0;
        for (int page = 0; page < LOGICAL_PAGES; page++) {
            held += places[page] != NONE ? 1 : 0;
        }
        return held;
    }

    private int logicalPageAt(int place) {
        for (int page = 0; page < LOGICAL_PAGES; page++) {
            if (places[page] == place) {
                return page;
            }
        }
        return NONE;
    }

    private int countInBlock(int block, int state) {
        int count = 0;
        for (int page = 0; page < BLOCK_PAGES; page++) {
            count += states[placeOf(block, page)] == state ? 1 : 0;
        }
        return count;
    }

    private boolean isWholeFree(int block) {
        return countInBlock(block, FREE) == BLOCK_PAGES;
    }

    /** Where the next page goes, never in the barred block: begun blocks come before those that are whole free. */
    private int freePlace(int barredBlock) {
        int firstOfWholeFree = NONE;
        for (int place = 0; place < PLACES; place++) {
            int block = blockOf(place);
            if (states[place] != FREE || block == barredBlock) {
                continue;
            }
            if (!isWholeFree(block)) {
                return place;
            }
            if (firstOfWholeFree == NONE) {
                firstOfWholeFree = place;
            }
        }
        return firstOfWholeFree;
    }

    /** Whether a page could be put now and a block with all pages free would be left. */
    private boolean leavesBlockFree() {
        int place = freePlace(NONE);
        if (place == NONE) {
            return false;
        }
        for (int block = 0; block < BLOCKS; block++) {
            if (block != blockOf(place) && isWholeFree(block)) {
                return true;
            }
        }
        return false;
    }

    private void put(int page, long content, int barredBlock) {
        int place = freePlace(barredBlock);
        if (place == NONE) {
            return;
        }
        memory.program(place, content, (page << SERIAL_BITS) | nextSerial);
        nextSerial = serialBehind(nextSerial);
        forget(page);
        hold(page, place);
    }

    private int blockToClean() {
        int best = NONE;
        for (int block = 0; block < BLOCKS; block++) {
            if (canBeCleaned(block) && (best == NONE || isBetterToClean(block, best))) {
                best = block;
            }
        }
        return best;
    }

    private boolean canBeCleaned(int block) {
        int used = countInBlock(block, USED);
        return !isWholeFree(block) && used < BLOCK_PAGES && used <= countFreeOutside(block);
    }

    private int countFreeOutside(int block) {
        int free = 0;
        for (int other = 0; other < BLOCKS; other++) {
            free += other != block ? countInBlock(other, FREE) : 0;
        }
        return free;
    }

    private boolean isBetterToClean(int block, int other) {
        int used = countInBlock(block, USED);
        int otherUsed = countInBlock(other, USED);
        return used != otherUsed ? used < otherUsed : memory.erasuresOf(block) < memory.erasuresOf(other);
    }

    private void cleanBlock(int block) {
        for (int page = 0; page < BLOCK_PAGES; page++) {
            moveAway(placeOf(block, page));
        }
        memory.erase(block);
        for (int page = 0; page < BLOCK_PAGES; page++) {
            states[placeOf(block, page)] = FREE;
        }
    }

    private void moveAway(int place) {
        int page = logicalPageAt(place);
        if (page == NONE) {
            return;
        }
        if (memory.isReadable(place)) {
            put(page, memory.contentAt(place), blockOf(place));
        } else {
            forget(page);
        }
    }

    /** The memory itself: what a loss of power leaves. */
    private static final class Flash {
        static final int WORDS = 5;
        private static final int TAG_WORD = 4;

        private final int[] words = new int[PLACES * WORDS];
        private final int[] erasures = new int[BLOCKS];

        Flash() {
            Arrays.fill(words, Code.ALL_ONES);
        }

        int wordAt(int place, int word) {
            return words[place * WORDS + word];
        }

        void turnOver(int place, int word, int bits) {
            words[place * WORDS + word] ^= bits;
        }

        void program(int place, long content, int tag) {
            int first = place * WORDS;
            for (int word = 0; word < TAG_WORD; word++) {
                int data = (int) (content >>> (word * Code.DATA_BITS)) & Code.MOST_DATA;
                words[first + word] &= Code.codewordOf(data);
            }
            words[first + TAG_WORD] &= Code.codewordOf(tag);
        }

        void erase(int block) {
            int first = placeOf(block, 0) * WORDS;
            for (int word = 0; word < BLOCK_PAGES * WORDS; word++) {
                words[first + word] = Code.ALL_ONES;
            }
            erasures[block]++;
        }

        int erasuresOf(int block) {
            return erasures[block];
        }

        int tagAt(int place) {
            int codeword = Code.mend(wordAt(place, TAG_WORD));
            return codeword == Code.LOST ? Code.LOST : Code.dataOf(codeword);
        }

        boolean isReadable(int place) {
            for (int word = 0; word < TAG_WORD; word++) {
                if (Code.mend(wordAt(place, word)) == Code.LOST) {
                    return false;
                }
            }
            return true;
        }

        /** Only of a page that is readable. */
        long contentAt(int place) {
            long content = 0;
            for (int word = 0; word < TAG_WORD; word++) {
                long data = Code.dataOf(Code.mend(wordAt(place, word)));
                content |= data << (word * Code.DATA_BITS);
            }
            return content;
        }
    }

    /** The cyclic code of 31 bits. Any two codewords differ in seven bits, so at most one is near enough to mend to. */
    private static final class Code {
        static final int LOST = -1;
        static final int ALL_ONES = 0x7FFFFFFF;
        static final int DATA_BITS = 16;
        static final int MOST_DATA = 65535;

        private static final int WORD_BITS = 31;
        private static final int CHECK_BITS = 15;
        private static final int FIRST_DATA_BIT = 1 << CHECK_BITS;
        private static final int GENERATOR = 0x8FAF;
        private static final int MOST_WRONG = 3;
        private static final int TURN_STEP = 5;

        private Code() {
        }

        static int codewordOf(int data) {
            int shifted = data << CHECK_BITS;
            return shifted | remainder(shifted);
        }

        static int dataOf(int codeword) {
            return codeword >>> CHECK_BITS;
        }

        /**
         * A codeword turned round stays a codeword. Of three wrong bits on the ring of 31, two stand at most 10
         * apart, so on the other side at least 20 bits in a row hold no more than one. Five turns that follow one
         * another bring the 16 data bits inside that row, and steps of five meet one of them.
         */
        static int mend(int word) {
            for (int turn = 0; turn < WORD_BITS; turn += TURN_STEP) {
                int codeword = mendOneInData(turned(word, turn));
                if (codeword != LOST) {
                    return turned(codeword, WORD_BITS - turn);
                }
            }
            return LOST;
        }

        /** Mends up to three wrong bits of which at most one is a data bit; otherwise lost. */
        private static int mendOneInData(int word) {
            int wrong = remainder(word);
            if (Integer.bitCount(wrong) <= MOST_WRONG) {
                return word ^ wrong;
            }
            int remainderOfBit = FIRST_DATA_BIT ^ GENERATOR;
            for (int bit = CHECK_BITS; bit < WORD_BITS; bit++) {
                int wrongChecks = wrong ^ remainderOfBit;
                if (Integer.bitCount(wrongChecks) < MOST_WRONG) {
                    return word ^ wrongChecks ^ (1 << bit);
                }
                remainderOfBit = timesX(remainderOfBit);
            }
            return LOST;
        }

        private static int turned(int word, int by) {
            return ((word << by) | (word >>> (WORD_BITS - by))) & ALL_ONES;
        }

        private static int timesX(int rest) {
            int doubled = rest << 1;
            return (doubled & FIRST_DATA_BIT) != 0 ? doubled ^ GENERATOR : doubled;
        }

        /** The rest of the division by the generator, as polynomials over two elements. */
        private static int remainder(int word) {
            int rest = word;
            for (int bit = WORD_BITS - 1; bit >= CHECK_BITS; bit--) {
                if ((rest & (1 << bit)) != 0) {
                    rest ^= GENERATOR << (bit - CHECK_BITS);
                }
            }
            return rest;
        }
    }
}
