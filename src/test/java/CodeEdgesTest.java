/** The boundary cases of promises 2, 3 and 4. Each method tests the sentence of the document that it quotes. */
public final class CodeEdgesTest {
    private static final int G = 36783;
    private static final int TOP_BIT = 1 << 30;
    private static final int LOST = 15;

    public static void main(String[] args) {
        theLeastAndTheMostData();
        dataBelowZero();
        dataAboveTheMost();
        codewordsDifferInSevenBits();
        upToThreeWrongBits();
        fourWrongBits();
        halfwayBetweenTwoCodewords();
        theLeastAndTheMostWord();
        wordsOfMoreBits();
        wordsBelowZero();
        lostWords();
        mendedWhenThereWasNone();
        mendedFromNoneToThree();
        mendedAfterALostWord();
        mendedAfterARefusedWord();
        mendedOfItsOwnObject();
        Check.close();
    }

    /** "The codeword of 16 data bits." */
    private static void theLeastAndTheMostData() {
        FlashStore store = new FlashStore();
        Check.same("encode(0)", store.encode(0), 0);
        Check.same("encode(1)", store.encode(1), G);
        Check.same("encode(2)", store.encode(2), G << 1);
        Check.same("encode(65535)", store.encode(65535), Check.ALL_ONES);
        Check.same("encode(65534)", store.encode(65534), Check.ALL_ONES ^ G);
    }

    /** "IllegalArgumentException: data is not 0 .. 65535": too small. */
    private static void dataBelowZero() {
        FlashStore store = new FlashStore();
        for (int data : new int[] {-1, -65535, -65536, Integer.MIN_VALUE}) {
            Check.refuses("encode(" + data + ")", Check.ARGUMENT, () -> store.encode(data));
        }
    }

    /** "IllegalArgumentException: data is not 0 .. 65535": too large. */
    private static void dataAboveTheMost() {
        FlashStore store = new FlashStore();
        for (int data : new int[] {65536, 65537, 1 << 17, Integer.MAX_VALUE}) {
            Check.refuses("encode(" + data + ")", Check.ARGUMENT, () -> store.encode(data));
        }
    }

    /** "Any two codewords differ in seven bits or more": two differ by a codeword, so none but 0 has fewer ones. */
    private static void codewordsDifferInSevenBits() {
        FlashStore store = new FlashStore();
        int fewest = 31;
        for (int data = 1; data <= 65535; data++) {
            store = data % 500 == 0 ? new FlashStore() : store;
            fewest = Math.min(fewest, Integer.bitCount(store.encode(data)));
        }
        Check.same("the fewest ones", fewest, 7);
    }

    /** "when they differ from a codeword in three bits or fewer, that codeword": at both ends and across the middle. */
    private static void upToThreeWrongBits() {
        int[] errors = {0, 1, TOP_BIT, 1 << 15, 1 << 14, TOP_BIT | 1, 3 << 14, 7, 7 << 28, 7 << 13, 7 << 14,
            TOP_BIT | 1 << 15 | 1, TOP_BIT | 1 << 14 | 1, 1 << 10 | 1 << 20 | TOP_BIT, 1 | 1 << 10 | 1 << 21};
        for (int data : new int[] {0, 65535, 0xA5C3}) {
            FlashStore store = new FlashStore();
            for (int error : errors) {
                Check.same("decode with errors " + error, store.decode(store.encode(data) ^ error), data);
            }
        }
    }

    /**
     * "otherwise they are LOST": of 31465 ways to turn four bits, only those that make four of the seven ones of
     * some codeword (155 have seven ones, 35 ways each) are near to another codeword.
     */
    private static void fourWrongBits() {
        int lost = 0;
        int others = 0;
        for (int a = 3; a < 31; a++) {
            for (int b = 2; b < a; b++) {
                FlashStore store = new FlashStore();
                for (int c = 1; c < b; c++) {
                    for (int d = 0; d < c; d++) {
                        // 406 words at the most, and no call beside.
                        int data = dataOrLost(store, 1 << a | 1 << b | 1 << c | 1 << d);
                        lost += data < 0 ? 1 : 0;
                        others += data > 0 ? 1 : 0;
                    }
                }
            }
        }
        Check.same("lost words of four wrong bits", lost, 31465 - 155 * 35);
        Check.same("words of four wrong bits near another codeword", others, 155 * 35);
    }

    private static int dataOrLost(FlashStore store, int word) {
        try {
            return store.decode(word);
        } catch (ArithmeticException lost) {
            return -1;
        }
    }

    /** "To MEND 31 bits": three ones of a codeword of seven are nearer to 0, four are nearer to that codeword. */
    private static void halfwayBetweenTwoCodewords() {
        FlashStore maker = new FlashStore();
        int pairs = 0;
        for (int data = 1; data <= 65535; data++) {
            maker = data % 500 == 0 ? new FlashStore() : maker;
            int codeword = maker.encode(data);
            if (Integer.bitCount(codeword) == 7) {
                halvesGoTheirWay(codeword);
                pairs++;
            }
        }
        Check.same("codewords of seven ones", pairs, 155);
    }

    private static void halvesGoTheirWay(int codeword) {
        FlashStore store = new FlashStore();
        int three = codeword;
        for (int dropped = 0; dropped < 4; dropped++) {
            three &= three - 1;
        }
        Check.same("decode(" + three + ")", store.decode(three), 0);
        Check.same("mended() of three ones", store.mended(), 3);
        int four = codeword ^ three;
        Check.same("decode(" + four + ")", store.decode(four), codeword >> 15);
        Check.same("mended() of four ones", store.mended(), 3);
    }

    /** "The data of 31 bits, mended." */
    private static void theLeastAndTheMostWord() {
        FlashStore store = new FlashStore();
        Check.same("decode(0)", store.decode(0), 0);
        Check.same("decode(2147483647)", store.decode(Integer.MAX_VALUE), 65535);
        Check.same("decode(2^30)", store.decode(TOP_BIT), 0);
    }

    /** "IllegalArgumentException: word has more bits": bit 31, alone and with a codeword below it. */
    private static void wordsOfMoreBits() {
        FlashStore store = new FlashStore();
        for (int below : new int[] {0, 1, G, TOP_BIT, LOST}) {
            int word = Integer.MIN_VALUE | below;
            Check.refuses("decode(" + word + ")", Check.ARGUMENT, () -> store.decode(word));
        }
    }

    /** "(or is below 0)" */
    private static void wordsBelowZero() {
        FlashStore store = new FlashStore();
        Check.refuses("decode(-1)", Check.ARGUMENT, () -> store.decode(-1));
        Check.refuses("decode(-2)", Check.ARGUMENT, () -> store.decode(-2));
    }

    /** "ArithmeticException: they are lost." */
    private static void lostWords() {
        FlashStore store = new FlashStore();
        for (int data : new int[] {0, 1, 0x8000, 65535}) {
            int word = store.encode(data) ^ LOST;
            Check.refuses("decode(" + word + ")", Check.ARITHMETIC, () -> store.decode(word));
        }
        Check.refuses("decode of every second bit", Check.ARITHMETIC, () -> store.decode(0x55555555));
    }

    /** "0 when there was none." */
    private static void mendedWhenThereWasNone() {
        FlashStore store = new FlashStore();
        Check.same("mended() at first", store.mended(), 0);
        Check.refuses("decode(15)", Check.ARITHMETIC, () -> store.decode(LOST));
        Check.same("mended() when the only word was lost", store.mended(), 0);
        Check.refuses("decode(-1)", Check.ARGUMENT, () -> store.decode(-1));
        Check.same("mended() when the others were refused", store.mended(), 0);
        store.encode(5);
        Check.same("mended() after encode", store.mended(), 0);
    }

    /** "How many bits were wrong in what decode() mended last": data bits and check bits alike. */
    private static void mendedFromNoneToThree() {
        FlashStore store = new FlashStore();
        int[] errors = {7, 3, 1, 0, 7 << 28, 3 << 28, TOP_BIT, 0, TOP_BIT | 1};
        for (int error : errors) {
            store.decode(store.encode(77) ^ error);
            Check.same("mended() of errors " + error, store.mended(), Integer.bitCount(error));
        }
    }

    /** "what decode() mended last": a lost word was not mended. */
    private static void mendedAfterALostWord() {
        FlashStore store = new FlashStore();
        store.decode(3);
        Check.refuses("decode(15)", Check.ARITHMETIC, () -> store.decode(LOST));
        Check.same("mended() after a lost word", store.mended(), 2);
        store.decode(0);
        Check.same("mended() of a codeword", store.mended(), 0);
    }

    /** "what decode() mended last": a refused word was not mended. */
    private static void mendedAfterARefusedWord() {
        FlashStore store = new FlashStore();
        store.decode(7);
        Check.refuses("decode(-7)", Check.ARGUMENT, () -> store.decode(-7));
        Check.same("mended() after a refused word", store.mended(), 3);
        Check.refuses("encode(-7)", Check.ARGUMENT, () -> store.encode(-7));
        Check.same("mended() after refused data", store.mended(), 3);
    }

    /** "How many bits were wrong in what decode() mended last": in this object. */
    private static void mendedOfItsOwnObject() {
        FlashStore store = new FlashStore();
        FlashStore other = new FlashStore();
        store.decode(7);
        Check.same("mended() of another object", other.mended(), 0);
        other.decode(1);
        Check.same("mended() of the first object", store.mended(), 3);
    }
}
