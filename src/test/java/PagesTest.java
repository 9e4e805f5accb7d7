/** Promises 1, 5 to 9, 12 to 15: the new object, write, read, trim, spoil, flash, place, state, wear, serial. */
public final class PagesTest {
    private static final int[] NO_LOGICAL = {-1, 8, Integer.MIN_VALUE, Integer.MAX_VALUE};
    private static final int[] NO_FOURTH = {-1, 4, Integer.MIN_VALUE, Integer.MAX_VALUE};
    private static final int[] NO_WORD = {-1, 5, Integer.MIN_VALUE, Integer.MAX_VALUE};

    public static void main(String[] args) {
        aNewObjectIsErasedAndMounted();
        writeProgramsTheFirstFreePage();
        writeOfAnotherContentMakesTheFirstOld();
        everyContentComesBack();
        programmingIsAnAnd();
        readMendsThreeBitsOfEachWord();
        readOfALostWord();
        readHangsOnWhatTheStoreKnows();
        trimForgetsUntilMount();
        spoilTurnsBitsOver();
        aBegunBlockComesFirst();
        logicalPagesThatAreNone();
        placesThatAreNone();
        refusedCallsChangeNothing();
        Check.close();
    }

    private static void aNewObjectIsErasedAndMounted() {
        FlashStore store = new FlashStore();
        for (int at = 0; at < 80; at++) {
            Check.same("new flash " + at, store.flash(at / 20, at / 5 % 4, at % 5), Check.ALL_ONES);
        }
        Check.same("new states", Check.states(store), "0000|0000|0000|0000");
        Check.same("new places", Check.places(store), "-1 -1 -1 -1 -1 -1 -1 -1");
        Check.same("new wear", Check.wears(store), "0 0 0 0");
        Check.same("new serial()", store.serial(), 0);
        Check.same("new mended()", store.mended(), 0);
        Check.refuses("new read(7)", Check.STATE, () -> store.read(7));
        Check.same("two objects", new FlashStore().mount(), 0);
    }

    private static void writeProgramsTheFirstFreePage() {
        FlashStore store = new FlashStore();
        store.write(5, 0x123456789ABCDEF0L);
        Check.same("word 0", store.flash(0, 0, 0), store.encode(0xDEF0));
        Check.same("word 1", store.flash(0, 0, 1), store.encode(0x9ABC));
        Check.same("word 2", store.flash(0, 0, 2), store.encode(0x5678));
        Check.same("word 3", store.flash(0, 0, 3), store.encode(0x1234));
        Check.same("the tag", store.flash(0, 0, 4), store.encode(5 << 12));
        store.write(7, 1);
        Check.same("the second tag", store.flash(0, 1, 4), store.encode(7 << 12 | 1));
        Check.same("the page behind", store.flash(0, 2, 4), Check.ALL_ONES);
        Check.same("serial()", store.serial(), 2);
        Check.same("places", Check.places(store), "-1 -1 -1 -1 -1 0 -1 1");
        Check.same("states", Check.states(store), "1100|0000|0000|0000");
    }

    private static void writeOfAnotherContentMakesTheFirstOld() {
        FlashStore store = new FlashStore();
        store.write(2, 20);
        store.write(2, 21);
        Check.same("read(2)", store.read(2), 21);
        Check.same("place(2)", store.place(2), 1);
        Check.same("states", Check.states(store), "2100|0000|0000|0000");
        Check.same("the old page's word", store.flash(0, 0, 0), store.encode(20));
    }

    private static void everyContentComesBack() {
        long[] contents = {0, -1, 1, Long.MIN_VALUE, Long.MAX_VALUE, 0x8000800080008000L, 0xFFFFL << 48, 65535};
        FlashStore store = new FlashStore();
        for (int page = 0; page < 8; page++) {
            store.write(page, contents[page]);
        }
        for (int page = 0; page < 8; page++) {
            Check.same("read(" + page + ")", store.read(page), contents[page]);
        }
    }

    private static void programmingIsAnAnd() {
        FlashStore store = new FlashStore();
        store.spoil(0, 0, 0, 7);
        store.spoil(0, 0, 1, 0x70000000);
        store.spoil(0, 0, 2, 15);
        store.write(0, -1);
        Check.same("word 0", store.flash(0, 0, 0), Check.ALL_ONES ^ 7);
        Check.same("word 1", store.flash(0, 0, 1), 0x0FFFFFFF);
        Check.refuses("read(0) of four bits that stayed 0", Check.ARITHMETIC, () -> store.read(0));
        store.write(1, 0);
        Check.same("zeros stay zeros", store.flash(0, 1, 0), 0);
        store.spoil(0, 2, 3, 15);
        store.write(2, 0);
        Check.same("the content has zeros there", store.read(2), 0);
    }

    private static void readMendsThreeBitsOfEachWord() {
        FlashStore store = new FlashStore();
        store.write(3, 0x0123456789ABCDEFL);
        store.spoil(0, 0, 0, 1 << 30 | 1 << 15 | 1);
        store.spoil(0, 0, 1, 1 << 5 | 1 << 16 | 1 << 26);
        store.spoil(0, 0, 2, 7 << 20);
        store.spoil(0, 0, 3, 7 << 28);
        int spoilt = store.flash(0, 0, 0);
        Check.same("read(3)", store.read(3), 0x0123456789ABCDEFL);
        Check.same("a read leaves the flash", store.flash(0, 0, 0), spoilt);
    }

    private static void readOfALostWord() {
        for (int word = 0; word < 4; word++) {
            FlashStore store = new FlashStore();
            store.write(0, 0);
            store.spoil(0, 0, word, 15);
            Check.refuses("read(0), word " + word + " lost", Check.ARITHMETIC, () -> store.read(0));
            Check.same("place(0)", store.place(0), 0);
            Check.same("state(0, 0)", store.state(0, 0), 1);
            store.spoil(0, 0, word, 8);
            Check.same("read(0), word " + word + " mended", store.read(0), 0);
        }
    }

    private static void readHangsOnWhatTheStoreKnows() {
        FlashStore store = new FlashStore();
        store.write(4, 44);
        store.spoil(0, 0, 4, Check.ALL_ONES);
        Check.same("read(4) with a spoilt tag", store.read(4), 44);
        Check.same("state(0, 0) with a spoilt tag", store.state(0, 0), 1);
        store.spoil(1, 1, 4, Check.ALL_ONES);
        Check.same("state(1, 1) before a mount", store.state(1, 1), 0);
    }

    private static void trimForgetsUntilMount() {
        FlashStore store = new FlashStore();
        Check.same("trim of nothing", store.trim(6), false);
        store.write(6, 66);
        store.write(1, 11);
        Check.same("trim(6)", store.trim(6), true);
        Check.same("trim(6) again", store.trim(6), false);
        Check.refuses("read(6)", Check.STATE, () -> store.read(6));
        Check.same("places", Check.places(store), "-1 1 -1 -1 -1 -1 -1 -1");
        Check.same("states", Check.states(store), "2100|0000|0000|0000");
        Check.same("serial()", store.serial(), 2);
        Check.same("mount()", store.mount(), 2);
        Check.same("read(6) after mount", store.read(6), 66);
        store.trim(6);
        store.write(6, 67);
        Check.same("read(6) written anew", store.read(6), 67);
        Check.same("states then", Check.states(store), "2110|0000|0000|0000");
    }

    private static void spoilTurnsBitsOver() {
        FlashStore store = new FlashStore();
        store.spoil(3, 3, 4, 5);
        Check.same("two bits", store.flash(3, 3, 4), Check.ALL_ONES - 5);
        store.spoil(3, 3, 4, 4);
        Check.same("one back", store.flash(3, 3, 4), Check.ALL_ONES - 1);
        store.spoil(3, 3, 4, 0);
        Check.same("none", store.flash(3, 3, 4), Check.ALL_ONES - 1);
        store.spoil(3, 3, 4, Check.ALL_ONES);
        Check.same("all", store.flash(3, 3, 4), 1);
        Check.same("the word before", store.flash(3, 3, 3), Check.ALL_ONES);
        store.spoil(1, 2, 3, 1 << 30);
        Check.same("the top bit", store.flash(1, 2, 3), Check.ALL_ONES >> 1);
    }

    private static void aBegunBlockComesFirst() {
        FlashStore store = new FlashStore();
        Check.loseTag(store, 9);
        store.mount();
        Check.same("states", Check.states(store), "0000|0000|0200|0000");
        for (int page = 0; page < 4; page++) {
            store.write(page, page);
        }
        Check.same("places", Check.places(store), "8 10 11 0 -1 -1 -1 -1");
    }

    private static void logicalPagesThatAreNone() {
        FlashStore store = new FlashStore();
        for (int page : NO_LOGICAL) {
            Check.refuses("write(" + page + ")", Check.ARGUMENT, () -> store.write(page, 0));
            Check.refuses("read(" + page + ")", Check.ARGUMENT, () -> store.read(page));
            Check.refuses("trim(" + page + ")", Check.ARGUMENT, () -> store.trim(page));
            Check.refuses("place(" + page + ")", Check.ARGUMENT, () -> store.place(page));
        }
        for (int page : new int[] {0, 7}) {
            Check.accepts("write(" + page + ")", () -> store.write(page, 0));
            Check.accepts("read(" + page + ")", () -> store.read(page));
            Check.accepts("place(" + page + ")", () -> store.place(page));
            Check.accepts("trim(" + page + ")", () -> store.trim(page));
        }
    }

    private static void placesThatAreNone() {
        FlashStore store = new FlashStore();
        for (int none : NO_FOURTH) {
            Check.refuses("spoil block " + none, Check.ARGUMENT, () -> store.spoil(none, 0, 0, 1));
            Check.refuses("spoil page " + none, Check.ARGUMENT, () -> store.spoil(0, none, 0, 1));
            Check.refuses("flash block " + none, Check.ARGUMENT, () -> store.flash(none, 0, 0));
            Check.refuses("flash page " + none, Check.ARGUMENT, () -> store.flash(0, none, 0));
            Check.refuses("state block " + none, Check.ARGUMENT, () -> store.state(none, 0));
            Check.refuses("state page " + none, Check.ARGUMENT, () -> store.state(0, none));
            Check.refuses("wear block " + none, Check.ARGUMENT, () -> store.wear(none));
        }
        for (int none : NO_WORD) {
            Check.refuses("spoil word " + none, Check.ARGUMENT, () -> store.spoil(0, 0, none, 1));
            Check.refuses("flash word " + none, Check.ARGUMENT, () -> store.flash(0, 0, none));
        }
        Check.refuses("spoil bits -1", Check.ARGUMENT, () -> store.spoil(0, 0, 0, -1));
        Check.refuses("spoil bits MIN", Check.ARGUMENT, () -> store.spoil(0, 0, 0, Integer.MIN_VALUE));
        Check.accepts("the last word", () -> store.spoil(3, 3, 4, Check.ALL_ONES));
        Check.accepts("the last state", () -> store.state(3, 3));
        Check.accepts("the last wear", () -> store.wear(3));
    }

    private static void refusedCallsChangeNothing() {
        FlashStore store = new FlashStore();
        store.write(0, 9);
        Check.refuses("write(8)", Check.ARGUMENT, () -> store.write(8, 1));
        Check.refuses("spoil with 32 bits", Check.ARGUMENT, () -> store.spoil(0, 0, 0, -2));
        Check.same("serial()", store.serial(), 1);
        Check.same("states", Check.states(store), "1000|0000|0000|0000");
        Check.same("flash(0, 0, 0)", store.flash(0, 0, 0), store.encode(9));
    }
}
