/**
 * The boundary cases of promises 6, 7 and 12, and of the logical pages that write takes. Each method tests the
 * sentence of the document that it quotes.
 */
public final class PageEdgesTest {
    private static final int[] NO_LOGICAL_PAGE = {-1, 8, 9, 15, 16, Integer.MIN_VALUE, Integer.MAX_VALUE};

    public static void main(String[] args) {
        theFirstAndTheLastLogicalPage();
        theLeastAndTheMostContent();
        bitsOfAContent();
        writeOfNoLogicalPage();
        writeOfNoLogicalPageIntoAFullStore();
        readOfNoLogicalPage();
        trimOfNoLogicalPage();
        placeOfNoLogicalPage();
        readOfNothingAtFirst();
        readOfNothingAfterTrim();
        readOfNothingAfterACleaning();
        readOfNothingAfterAMount();
        readOfThreeWrongBitsInEachWord();
        readOfFourWrongBitsInOneWord();
        readNeedsNoTag();
        aRefusedReadChangesNothing();
        trimOfNothing();
        trimOfSomething();
        trimOfWhatCantBeRead();
        trimmedUntilTheNextMount();
        trimmedBehindTheNextMount();
        trimmedAndErasedBehindTheNextMount();
        placeOfNothing();
        theFirstAndTheLastPlace();
        Check.close();
    }

    /** "The store holds for each logical page 0 .. 7 a 64-bit CONTENT" */
    private static void theFirstAndTheLastLogicalPage() {
        FlashStore store = new FlashStore();
        store.write(0, 5);
        store.write(7, 6);
        Check.same("read(0)", store.read(0), 5);
        Check.same("read(7)", store.read(7), 6);
        Check.same("the first one's tag", store.flash(0, 0, 4), store.encode(0));
        Check.same("the last one's tag", store.flash(0, 1, 4), store.encode(7 << 12 | 1));
        Check.same("trim(0)", store.trim(0), true);
        Check.same("trim(7)", store.trim(7), true);
    }

    /** "a 64-bit CONTENT" */
    private static void theLeastAndTheMostContent() {
        FlashStore store = new FlashStore();
        for (long content : new long[] {0, 1, -1, Long.MIN_VALUE, Long.MAX_VALUE}) {
            store.write(4, content);
            Check.same("read(4)", store.read(4), content);
        }
    }

    /** "(bits 0 to 15 in word 0, and so on)": each bit alone. */
    private static void bitsOfAContent() {
        for (int bit = 0; bit < 64; bit++) {
            FlashStore store = new FlashStore();
            store.write(2, 1L << bit);
            for (int word = 0; word < 4; word++) {
                int due = word == bit / 16 ? store.encode(1 << bit % 16) : 0;
                Check.same("bit " + bit + " in word " + word, store.flash(0, 0, word), due);
            }
            Check.same("read of bit " + bit, store.read(2), 1L << bit);
        }
    }

    /** write, "IllegalArgumentException: there is none": and nothing changes. */
    private static void writeOfNoLogicalPage() {
        FlashStore store = new FlashStore();
        store.write(0, 9);
        String before = Check.picture(store);
        for (int page : NO_LOGICAL_PAGE) {
            Check.refuses("write(" + page + ", 1)", Check.ARGUMENT, () -> store.write(page, 1));
        }
        Check.same("all after refused writes", Check.picture(store), before);
    }

    /** write, "IllegalArgumentException: there is none": nothing is cleaned for it, and no full store hides it. */
    private static void writeOfNoLogicalPageIntoAFullStore() {
        FlashStore full = Check.storeOf("1122|1122|1122|1122");
        FlashStore due = Check.storeOf("2222|2222|2222|0000");
        for (int page : NO_LOGICAL_PAGE) {
            Check.refuses("write(" + page + ", 1) when full", Check.ARGUMENT, () -> full.write(page, 1));
            Check.refuses("write(" + page + ", 1) when due to clean", Check.ARGUMENT, () -> due.write(page, 1));
        }
        Check.same("wear", Check.wears(due), "0 0 0 0");
        Check.same("states", Check.states(due), "2222|2222|2222|0000");
    }

    /** read, "IllegalArgumentException: there is none" */
    private static void readOfNoLogicalPage() {
        FlashStore store = Check.storeOf("1111|1111|0000|0000");
        for (int page : NO_LOGICAL_PAGE) {
            Check.refuses("read(" + page + ")", Check.ARGUMENT, () -> store.read(page));
            Check.refuses("read(" + page + ") of a new store", Check.ARGUMENT, () -> new FlashStore().read(page));
        }
    }

    /** trim, "IllegalArgumentException: there is none": and nothing changes. */
    private static void trimOfNoLogicalPage() {
        FlashStore store = Check.storeOf("1111|1111|0000|0000");
        String before = Check.picture(store);
        for (int page : NO_LOGICAL_PAGE) {
            Check.refuses("trim(" + page + ")", Check.ARGUMENT, () -> store.trim(page));
        }
        Check.same("all after refused trims", Check.picture(store), before);
    }

    /** place, "IllegalArgumentException: there is none" */
    private static void placeOfNoLogicalPage() {
        FlashStore store = Check.storeOf("1111|1111|0000|0000");
        for (int page : NO_LOGICAL_PAGE) {
            Check.refuses("place(" + page + ")", Check.ARGUMENT, () -> store.place(page));
        }
    }

    /** read, "IllegalStateException: it has nothing": at first. */
    private static void readOfNothingAtFirst() {
        FlashStore store = new FlashStore();
        store.write(3, 3);
        for (int page = 0; page < 8; page++) {
            int logical = page;
            String due = page == 3 ? "nothing" : Check.STATE;
            Check.refuses("read(" + page + ")", due, () -> store.read(logical));
        }
    }

    /** read, "IllegalStateException: it has nothing": after a trim, also of a page that could not be read. */
    private static void readOfNothingAfterTrim() {
        FlashStore store = new FlashStore();
        store.write(3, 3);
        store.write(3, 4);
        store.trim(3);
        Check.refuses("read(3)", Check.STATE, () -> store.read(3));
        store.write(4, 4);
        Check.loseContent(store, 2);
        store.trim(4);
        Check.refuses("read(4)", Check.STATE, () -> store.read(4));
    }

    /** read, "IllegalStateException: it has nothing": after a cleaning has left it out. */
    private static void readOfNothingAfterACleaning() {
        FlashStore store = new FlashStore();
        store.write(3, 3);
        Check.loseContent(store, 0);
        Check.refuses("read(3) before", Check.ARITHMETIC, () -> store.read(3));
        store.clean();
        Check.refuses("read(3)", Check.STATE, () -> store.read(3));
    }

    /** read, "IllegalStateException: it has nothing": after a mount that found its tag lost. */
    private static void readOfNothingAfterAMount() {
        FlashStore store = new FlashStore();
        store.write(3, 3);
        Check.loseTag(store, 0);
        store.mount();
        Check.refuses("read(3)", Check.STATE, () -> store.read(3));
    }

    /** "To READ a page: its words 0 to 3, mended" */
    private static void readOfThreeWrongBitsInEachWord() {
        FlashStore store = new FlashStore();
        long content = 0xFEDCBA9876543210L;
        store.write(1, content);
        for (int word = 0; word < 4; word++) {
            store.spoil(0, 0, word, 1 << 30 | 1 << (word + 13) | 1);
        }
        String before = Check.picture(store);
        Check.same("read(1)", store.read(1), content);
        Check.same("all after a read", Check.picture(store), before);
    }

    /** "when one is lost, it can't be read": each of the four alone. */
    private static void readOfFourWrongBitsInOneWord() {
        for (int word = 0; word < 4; word++) {
            FlashStore store = new FlashStore();
            store.write(1, 0xFEDCBA9876543210L);
            store.spoil(0, 0, word, 7);
            Check.same("read(1), three bits of word " + word, store.read(1), 0xFEDCBA9876543210L);
            store.spoil(0, 0, word, 8);
            Check.refuses("read(1), four bits of word " + word, Check.ARITHMETIC, () -> store.read(1));
            store.spoil(0, 0, word, 1);
            Check.same("read(1), three others of word " + word, store.read(1), 0xFEDCBA9876543210L);
        }
    }

    /** "To READ a page: its words 0 to 3": word 4 may be lost. */
    private static void readNeedsNoTag() {
        FlashStore store = new FlashStore();
        store.write(1, 11);
        Check.loseTag(store, 0);
        Check.same("read(1)", store.read(1), 11);
        Check.same("state(0, 0)", store.state(0, 0), 1);
    }

    /** read, "ArithmeticException: it can't be read": and nothing changes. */
    private static void aRefusedReadChangesNothing() {
        FlashStore store = new FlashStore();
        store.write(1, 11);
        Check.loseContent(store, 0);
        store.decode(1);
        String before = Check.picture(store);
        Check.refuses("read(1)", Check.ARITHMETIC, () -> store.read(1));
        Check.refuses("read(2)", Check.STATE, () -> store.read(2));
        Check.refuses("read(8)", Check.ARGUMENT, () -> store.read(8));
        Check.same("all after refused reads", Check.picture(store), before);
    }

    /** "false, if it had nothing": at first, after a trim, a cleaning and a mount. */
    private static void trimOfNothing() {
        FlashStore store = new FlashStore();
        String before = Check.picture(store);
        Check.same("trim(0) at first", store.trim(0), false);
        Check.same("trim(7) at first", store.trim(7), false);
        Check.same("all after trims of nothing", Check.picture(store), before);
        store.write(0, 1);
        store.trim(0);
        Check.same("trim(0) after a trim", store.trim(0), false);
        store.write(0, 1);
        Check.loseContent(store, 1);
        store.clean();
        Check.same("trim(0) after a cleaning left it out", store.trim(0), false);
        store.write(0, 1);
        Check.loseTag(store, store.place(0));
        store.mount();
        Check.same("trim(0) after a mount did not find it", store.trim(0), false);
    }

    /** "A logical page has nothing any more (the flash's page that it used is old)" */
    private static void trimOfSomething() {
        FlashStore store = Check.storeOf("0000|1100|0000|0000");
        int word = store.flash(1, 1, 4);
        Check.same("trim(1)", store.trim(1), true);
        Check.same("place(1)", store.place(1), -1);
        Check.same("states", Check.states(store), "0000|1200|0000|0000");
        Check.same("the flash stays", store.flash(1, 1, 4), word);
        Check.same("serial()", store.serial(), 6);
    }

    /** "false, if it had nothing": what can't be read is not nothing. */
    private static void trimOfWhatCantBeRead() {
        FlashStore store = new FlashStore();
        store.write(5, 5);
        Check.loseContent(store, 0);
        Check.same("trim(5)", store.trim(5), true);
        Check.same("state(0, 0)", store.state(0, 0), 2);
    }

    /** "until the next mount() at least": other calls do not bring it back. */
    private static void trimmedUntilTheNextMount() {
        FlashStore store = new FlashStore();
        store.write(5, 50);
        store.write(5, 51);
        store.write(6, 60);
        store.trim(5);
        for (int write = 0; write < 30; write++) {
            store.write(6, write);
            Check.same("place(5)", store.place(5), -1);
        }
        store.clean();
        Check.refuses("read(5)", Check.STATE, () -> store.read(5));
        Check.same("trim(5)", store.trim(5), false);
    }

    /** "until the next mount() at least": that finds the page on the flash, the newest one. */
    private static void trimmedBehindTheNextMount() {
        FlashStore store = new FlashStore();
        store.write(5, 50);
        store.write(5, 51);
        store.trim(5);
        Check.same("mount()", store.mount(), 1);
        Check.same("read(5)", store.read(5), 51);
        Check.same("states", Check.states(store), "2100|0000|0000|0000");
    }

    /** "until the next mount() at least": an old page is not moved when its block is cleaned. */
    private static void trimmedAndErasedBehindTheNextMount() {
        FlashStore store = new FlashStore();
        store.write(5, 50);
        store.write(6, 60);
        store.trim(5);
        Check.same("clean()", store.clean(), 0);
        Check.same("mount()", store.mount(), 1);
        Check.same("place(5)", store.place(5), -1);
        Check.same("read(6)", store.read(6), 60);
    }

    /** "-1 when it has nothing" */
    private static void placeOfNothing() {
        FlashStore store = new FlashStore();
        Check.same("places at first", Check.places(store), "-1 -1 -1 -1 -1 -1 -1 -1");
        store.write(7, 0);
        store.write(0, 0);
        store.trim(7);
        Check.same("places after a trim", Check.places(store), "1 -1 -1 -1 -1 -1 -1 -1");
    }

    /** "Where a logical page is: 4 * block + page" */
    private static void theFirstAndTheLastPlace() {
        FlashStore store = Check.storeOf("1001|1000|0110|0001");
        Check.same("places", Check.places(store), "0 3 4 9 10 15 -1 -1");
    }
}
