/**
 * The boundary cases of promises 1, 8, 9, 13 and 14, and of the flash itself. Each method tests the sentence of the
 * document that it quotes.
 */
public final class FlashEdgesTest {
    private static final int[] NO_BLOCK_OR_PAGE = {-1, 4, 5, 16, Integer.MIN_VALUE, Integer.MAX_VALUE};
    private static final int[] NO_WORD = {-1, 5, 6, 20, Integer.MIN_VALUE, Integer.MAX_VALUE};

    public static void main(String[] args) {
        aNewFlashIsErased();
        aNewFlashHasNoWear();
        aNewStoreIsMounted();
        objectsShareNothing();
        theLastCallThatIsPromised();
        everyWordIsItsOwn();
        flashOfNoBlock();
        flashOfNoPage();
        flashOfNoWord();
        spoilOfNoBlock();
        spoilOfNoPage();
        spoilOfNoWord();
        spoilWithMoreThan31Bits();
        spoilWithNoBitAndWithAll();
        aRefusedSpoilTurnsNothingOver();
        stateOfNoBlock();
        stateOfNoPage();
        stateOfTheFirstAndTheLastPage();
        wearOfNoBlock();
        wearOfTheFirstAndTheLastBlock();
        programmingKeepsZeros();
        programmingATagKeepsZeros();
        erasingIsOfOneBlock();
        Check.close();
    }

    /** A store that has something of everything: used and old pages, wear, a spoilt word, a word mended. */
    private static FlashStore livedIn() {
        FlashStore store = new FlashStore();
        store.write(0, 10);
        store.write(7, -70);
        store.write(0, 11);
        store.clean();
        store.write(3, 33);
        store.trim(3);
        store.spoil(1, 0, 2, 3);
        store.decode(7);
        return store;
    }

    /** "All pages are erased": "all 1 when it is ERASED (at first, too)". */
    private static void aNewFlashIsErased() {
        FlashStore store = new FlashStore();
        for (int at = 0; at < 80; at++) {
            Check.same("new word " + at, store.flash(at / 20, at / 5 % 4, at % 5), Check.ALL_ONES);
        }
    }

    /** "no wear" */
    private static void aNewFlashHasNoWear() {
        Check.same("new wear", Check.wears(new FlashStore()), "0 0 0 0");
    }

    /** "the store is mounted": a mount finds nothing else. */
    private static void aNewStoreIsMounted() {
        FlashStore store = new FlashStore();
        Check.same("new states", Check.states(store), "0000|0000|0000|0000");
        Check.same("new places", Check.places(store), "-1 -1 -1 -1 -1 -1 -1 -1");
        Check.same("new serial()", store.serial(), 0);
        String before = Check.picture(store);
        Check.same("mount() of a new store", store.mount(), 0);
        Check.same("all after it", Check.picture(store), before);
    }

    /** "All pages are erased; no wear": whatever other objects went through. */
    private static void objectsShareNothing() {
        String fresh = Check.picture(new FlashStore());
        FlashStore store = livedIn();
        Check.same("a new object beside a used one", Check.picture(new FlashStore()), fresh);
        Check.same("the used one", store.read(7), -70);
    }

    /** "An object is used for at most 512 calls after it has been made": 511 writes, and the last call reads. */
    private static void theLastCallThatIsPromised() {
        FlashStore store = new FlashStore();
        for (int call = 1; call <= 511; call++) {
            store.write(call % 8, call);
        }
        Check.same("the 512th call", store.read(511 % 8), 511);
    }

    /** "BLOCKS 0 .. 3 of PAGES 0 .. 3; a page has five WORDS 0 .. 4 of 31 bits" */
    private static void everyWordIsItsOwn() {
        FlashStore store = new FlashStore();
        for (int at = 0; at < 80; at++) {
            store.spoil(at / 20, at / 5 % 4, at % 5, at + 1);
        }
        for (int at = 0; at < 80; at++) {
            Check.same("word " + at, store.flash(at / 20, at / 5 % 4, at % 5), Check.ALL_ONES ^ (at + 1));
        }
    }

    /** "A word of the flash. IllegalArgumentException: there is none": no such block. */
    private static void flashOfNoBlock() {
        FlashStore store = livedIn();
        for (int block : NO_BLOCK_OR_PAGE) {
            Check.refuses("flash(" + block + ", 0, 0)", Check.ARGUMENT, () -> store.flash(block, 0, 0));
            Check.refuses("flash(" + block + ", 3, 4)", Check.ARGUMENT, () -> store.flash(block, 3, 4));
        }
    }

    /** "A word of the flash. IllegalArgumentException: there is none": no such page. */
    private static void flashOfNoPage() {
        FlashStore store = livedIn();
        for (int page : NO_BLOCK_OR_PAGE) {
            Check.refuses("flash(0, " + page + ", 0)", Check.ARGUMENT, () -> store.flash(0, page, 0));
            Check.refuses("flash(3, " + page + ", 4)", Check.ARGUMENT, () -> store.flash(3, page, 4));
        }
    }

    /** "A word of the flash. IllegalArgumentException: there is none": no such word. */
    private static void flashOfNoWord() {
        FlashStore store = livedIn();
        for (int word : NO_WORD) {
            Check.refuses("flash(0, 0, " + word + ")", Check.ARGUMENT, () -> store.flash(0, 0, word));
            Check.refuses("flash(3, 3, " + word + ")", Check.ARGUMENT, () -> store.flash(3, 3, word));
        }
    }

    /** "IllegalArgumentException: there is no such block" */
    private static void spoilOfNoBlock() {
        FlashStore store = livedIn();
        for (int block : NO_BLOCK_OR_PAGE) {
            Check.refuses("spoil(" + block + ", 0, 0, 1)", Check.ARGUMENT, () -> store.spoil(block, 0, 0, 1));
            Check.refuses("spoil(" + block + ", 3, 4, 0)", Check.ARGUMENT, () -> store.spoil(block, 3, 4, 0));
        }
    }

    /** "IllegalArgumentException: there is no such .. page" */
    private static void spoilOfNoPage() {
        FlashStore store = livedIn();
        for (int page : NO_BLOCK_OR_PAGE) {
            Check.refuses("spoil(0, " + page + ", 0, 1)", Check.ARGUMENT, () -> store.spoil(0, page, 0, 1));
            Check.refuses("spoil(3, " + page + ", 4, 0)", Check.ARGUMENT, () -> store.spoil(3, page, 4, 0));
        }
    }

    /** "IllegalArgumentException: there is no such .. word" */
    private static void spoilOfNoWord() {
        FlashStore store = livedIn();
        for (int word : NO_WORD) {
            Check.refuses("spoil(0, 0, " + word + ", 1)", Check.ARGUMENT, () -> store.spoil(0, 0, word, 1));
            Check.refuses("spoil(3, 3, " + word + ", 0)", Check.ARGUMENT, () -> store.spoil(3, 3, word, 0));
        }
    }

    /** "IllegalArgumentException: .. or bits has more than 31" */
    private static void spoilWithMoreThan31Bits() {
        FlashStore store = livedIn();
        for (int bits : new int[] {Integer.MIN_VALUE, Integer.MIN_VALUE + 1, -1, -2}) {
            Check.refuses("spoil(0, 0, 0, " + bits + ")", Check.ARGUMENT, () -> store.spoil(0, 0, 0, bits));
            Check.refuses("spoil(3, 3, 4, " + bits + ")", Check.ARGUMENT, () -> store.spoil(3, 3, 4, bits));
        }
        Check.accepts("spoil with 31 bits", () -> store.spoil(3, 3, 4, Integer.MAX_VALUE));
        Check.accepts("spoil with bit 30", () -> store.spoil(0, 0, 0, 1 << 30));
    }

    /** "The bits of a word of the flash that are 1 in bits are turned over." */
    private static void spoilWithNoBitAndWithAll() {
        FlashStore store = livedIn();
        String before = Check.picture(store);
        store.spoil(2, 1, 3, 0);
        Check.same("all after spoil with no bit", Check.picture(store), before);
        int word = store.flash(1, 1, 4);
        store.spoil(1, 1, 4, Check.ALL_ONES);
        Check.same("every bit turned", store.flash(1, 1, 4), Check.ALL_ONES ^ word);
        store.spoil(1, 1, 4, Check.ALL_ONES);
        Check.same("all after turning back", Check.picture(store), before);
    }

    /** "IllegalArgumentException: there is no such block, page or word, or bits has more than 31": nothing changes. */
    private static void aRefusedSpoilTurnsNothingOver() {
        FlashStore store = livedIn();
        String before = Check.picture(store);
        Check.refuses("spoil(0, 0, 0, -2)", Check.ARGUMENT, () -> store.spoil(0, 0, 0, -2));
        Check.refuses("spoil(0, 0, 5, 1)", Check.ARGUMENT, () -> store.spoil(0, 0, 5, 1));
        Check.refuses("spoil(0, 4, 0, 1)", Check.ARGUMENT, () -> store.spoil(0, 4, 0, 1));
        Check.refuses("spoil(0, 1, -1, 1)", Check.ARGUMENT, () -> store.spoil(0, 1, -1, 1));
        Check.refuses("spoil(1, -1, 0, 1)", Check.ARGUMENT, () -> store.spoil(1, -1, 0, 1));
        Check.refuses("spoil(4, 0, 0, -1)", Check.ARGUMENT, () -> store.spoil(4, 0, 0, -1));
        Check.same("all after refused calls", Check.picture(store), before);
    }

    /** "What the store knows of a page of the flash .. IllegalArgumentException: there is none": no such block. */
    private static void stateOfNoBlock() {
        FlashStore store = livedIn();
        for (int block : NO_BLOCK_OR_PAGE) {
            Check.refuses("state(" + block + ", 0)", Check.ARGUMENT, () -> store.state(block, 0));
            Check.refuses("state(" + block + ", 3)", Check.ARGUMENT, () -> store.state(block, 3));
        }
    }

    /** "What the store knows of a page of the flash .. IllegalArgumentException: there is none": no such page. */
    private static void stateOfNoPage() {
        FlashStore store = livedIn();
        for (int page : NO_BLOCK_OR_PAGE) {
            Check.refuses("state(0, " + page + ")", Check.ARGUMENT, () -> store.state(0, page));
            Check.refuses("state(3, " + page + ")", Check.ARGUMENT, () -> store.state(3, page));
        }
    }

    /** "0 free, 1 used, 2 old" */
    private static void stateOfTheFirstAndTheLastPage() {
        FlashStore ends = Check.storeOf("1000|0000|0000|0002");
        Check.same("state(0, 0) of a used page", ends.state(0, 0), 1);
        Check.same("state(3, 3) of an old page", ends.state(3, 3), 2);
        FlashStore others = Check.storeOf("2000|0000|0000|0001");
        Check.same("state(0, 0) of an old page", others.state(0, 0), 2);
        Check.same("state(3, 3) of a used page", others.state(3, 3), 1);
        Check.same("state(3, 2) of a free page", others.state(3, 2), 0);
    }

    /** "How often a block was erased. IllegalArgumentException: there is none." */
    private static void wearOfNoBlock() {
        FlashStore store = livedIn();
        for (int block : NO_BLOCK_OR_PAGE) {
            Check.refuses("wear(" + block + ")", Check.ARGUMENT, () -> store.wear(block));
        }
    }

    /** "it is counted (its WEAR)": by calls of clean() and by writes that clean. */
    private static void wearOfTheFirstAndTheLastBlock() {
        FlashStore store = Check.storeOf("2000|0000|0000|2000");
        store.clean();
        store.clean();
        Check.same("wear of the first and the last", Check.wears(store), "1 0 0 1");
        FlashStore writer = Check.storeOf("2222|2222|2222|0000");
        writer.write(0, 0);
        Check.same("wear after a write that cleans", Check.wears(writer), "1 0 0 0");
        writer.mount();
        Check.same("wear after a mount", Check.wears(writer), "1 0 0 0");
    }

    /** "To PROGRAM a page .. makes each word the AND of what it is and that." */
    private static void programmingKeepsZeros() {
        FlashStore store = new FlashStore();
        for (int word = 0; word < 4; word++) {
            store.spoil(0, 0, word, 7 << (8 * word));
        }
        store.write(0, -1);
        for (int word = 0; word < 4; word++) {
            Check.same("word " + word, store.flash(0, 0, word), Check.ALL_ONES ^ 7 << (8 * word));
        }
        Check.same("read(0) of three zeros in each word", store.read(0), -1);
        store.spoil(0, 1, 3, Check.ALL_ONES);
        store.write(1, -1);
        Check.same("a word of zeros stays so", store.flash(0, 1, 3), 0);
        Check.same("read(1)", store.read(1), 0x0000FFFFFFFFFFFFL);
    }

    /** "To PROGRAM a page .. makes each word the AND": of the tag, too, and only a mount looks at it. */
    private static void programmingATagKeepsZeros() {
        FlashStore store = new FlashStore();
        store.spoil(0, 0, 4, Check.ALL_ONES);
        store.write(7, 70);
        Check.same("the tag's word", store.flash(0, 0, 4), 0);
        Check.same("place(7)", store.place(7), 0);
        Check.same("mount()", store.mount(), 1);
        Check.same("places", Check.places(store), "0 -1 -1 -1 -1 -1 -1 -1");
        Check.same("read(0)", store.read(0), 70);
    }

    /** "To ERASE a block makes all its pages erased" */
    private static void erasingIsOfOneBlock() {
        FlashStore store = new FlashStore();
        for (int at = 0; at < 80; at++) {
            store.spoil(at / 20, at / 5 % 4, at % 5, 15);
        }
        store.mount();
        Check.same("four old blocks", Check.states(store), "2222|2222|2222|2222");
        store.clean();
        store.clean();
        for (int at = 0; at < 80; at++) {
            int due = at < 40 ? Check.ALL_ONES : Check.ALL_ONES ^ 15;
            Check.same("word " + at + " after two cleanings", store.flash(at / 20, at / 5 % 4, at % 5), due);
        }
        Check.same("states", Check.states(store), "0000|0000|2222|2222");
    }
}
