/** Promises 2, 3 and 4: encode, decode, mended. */
public final class CodeTest {
    private static final int[] EXPONENTS_OF_G = {15, 11, 10, 9, 8, 7, 5, 3, 2, 1, 0};
    private static final int NOT_NEAR = -1;

    public static void main(String[] args) {
        encodeGivesTheOneMultiple();
        encodeRefusesOtherData();
        decodeMendsEveryErrorOfUpToThreeBits();
        decodeAnswersForEveryRemainder();
        decodeRefusesMoreBits();
        mendedTellsOfTheLastMendedWord();
        mendedIsOfDecodeAlone();
        Check.close();
    }

    /** Division as on paper, with longs and exponents: not as the class does it. */
    private static long modG(long polynomial) {
        long g = 0;
        for (int exponent : EXPONENTS_OF_G) {
            g |= 1L << exponent;
        }
        long rest = polynomial;
        while (rest >= 1L << 15) {
            int top = 63 - Long.numberOfLeadingZeros(rest);
            rest ^= g << (top - 15);
        }
        return rest;
    }

    private static void encodeGivesTheOneMultiple() {
        FlashStore store = new FlashStore();
        for (int data = 0; data <= 65535; data++) {
            // An object is promised for 512 calls only.
            store = data % 500 == 0 ? new FlashStore() : store;
            int codeword = store.encode(data);
            Check.same("encode(" + data + ") modulo G", modG(codeword), 0);
            Check.same("data of encode(" + data + ")", codeword >> 15, data);
        }
    }

    private static void encodeRefusesOtherData() {
        FlashStore store = new FlashStore();
        Check.same("encode(0)", store.encode(0), 0);
        Check.same("encode(65535)", store.encode(65535), Check.ALL_ONES);
        for (int data : new int[] {-1, 65536, Integer.MIN_VALUE, Integer.MAX_VALUE}) {
            Check.refuses("encode(" + data + ")", Check.ARGUMENT, () -> store.encode(data));
        }
    }

    private static void decodeMendsEveryErrorOfUpToThreeBits() {
        for (int data : new int[] {0, 1, 0x8000, 0x5AC3, 65535}) {
            for (int a = 0; a < 31; a++) {
                FlashStore store = new FlashStore();
                decodeMends(store, data, 0);
                decodeMends(store, data, 1 << a);
                for (int b = 0; b < a; b++) {
                    store = new FlashStore();
                    decodeMends(store, data, 1 << a | 1 << b);
                    for (int c = 0; c < b; c++) {
                        decodeMends(store, data, 1 << a | 1 << b | 1 << c);
                    }
                }
            }
        }
    }

    private static void decodeMends(FlashStore store, int data, int errors) {
        int word = store.encode(data) ^ errors;
        Check.same("decode(" + word + ")", store.decode(word), data);
        Check.same("mended() after decode(" + word + ")", store.mended(), Integer.bitCount(errors));
    }

    /** Whether a word is lost hangs on its remainder alone, and a word of check bits is its own remainder. */
    private static void decodeAnswersForEveryRemainder() {
        int[] errorsOf = errorsByRemainder();
        FlashStore store = new FlashStore();
        int lost = 0;
        for (int remainder = 0; remainder < 1 << 15; remainder++) {
            store = remainder % 500 == 0 ? new FlashStore() : store;
            FlashStore current = store;
            int word = remainder;
            if (errorsOf[remainder] == NOT_NEAR) {
                lost++;
                Check.refuses("decode(" + word + ")", Check.ARITHMETIC, () -> current.decode(word));
            } else {
                Check.same("decode(" + word + ")", current.decode(word), (word ^ errorsOf[word]) >> 15);
            }
        }
        Check.same("lost remainders", lost, 32768 - 4992);
    }

    private static int[] errorsByRemainder() {
        int[] errorsOf = new int[1 << 15];
        java.util.Arrays.fill(errorsOf, NOT_NEAR);
        for (int a = 0; a < 31; a++) {
            for (int b = 0; b < 31; b++) {
                for (int c = 0; c < 31; c++) {
                    // Equal positions make the patterns of one and two bits as well.
                    int errors = 1 << a | 1 << b | 1 << c;
                    errorsOf[(int) modG(errors)] = errors;
                }
            }
        }
        errorsOf[0] = 0;
        return errorsOf;
    }

    private static void decodeRefusesMoreBits() {
        FlashStore store = new FlashStore();
        Check.refuses("decode(-1)", Check.ARGUMENT, () -> store.decode(-1));
        Check.refuses("decode(MIN)", Check.ARGUMENT, () -> store.decode(Integer.MIN_VALUE));
        Check.same("decode(MAX)", store.decode(Integer.MAX_VALUE), 65535);
    }

    private static void mendedTellsOfTheLastMendedWord() {
        FlashStore store = new FlashStore();
        Check.same("mended() at first", store.mended(), 0);
        store.decode(3);
        Check.same("mended() of 3", store.mended(), 2);
        Check.refuses("decode(15)", Check.ARITHMETIC, () -> store.decode(15));
        Check.same("mended() after a lost word", store.mended(), 2);
        Check.refuses("decode(-7)", Check.ARGUMENT, () -> store.decode(-7));
        Check.same("mended() after a wrong word", store.mended(), 2);
        store.decode(0);
        Check.same("mended() of a codeword", store.mended(), 0);
    }

    private static void mendedIsOfDecodeAlone() {
        FlashStore store = new FlashStore();
        store.write(1, 5);
        store.spoil(0, 0, 0, 7);
        store.spoil(0, 0, 4, 7);
        store.decode(1);
        store.read(1);
        store.mount();
        store.clean();
        store.encode(9);
        Check.same("mended() after read, mount and clean", store.mended(), 1);
    }
}
