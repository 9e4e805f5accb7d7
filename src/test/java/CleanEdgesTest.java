/**
 * The boundary cases of promise 11: which block is cleaned, what becomes of its pages, and when none can be. Each
 * method tests the sentence of the document that it quotes.
 */
public final class CleanEdgesTest {
    private static final int NONE = -1;

    public static void main(String[] args) {
        allPagesFree();
        fourUsedPages();
        asManyUsedAsFree();
        moreUsedThanFree();
        freePagesOfTheSameBlock();
        noUsedAndNoFree();
        theFewestUsed();
        theFewestUsedThoughWorn();
        theLeastWear();
        theLowest();
        usedPagesInOrder();
        contentIsMended();
        aBegunBlockTakesThem();
        neverInThisBlock();
        noBlockIsLeftFree();
        noBlockWasFree();
        programmingOverZeros();
        onePageThatCantBeRead();
        allPagesThatCantBeRead();
        pagesThatCantBeReadCountAsUsed();
        anUnreadablePageTakesNoPlace();
        oldPagesAreLeft();
        theBlockIsErased();
        whichOneWasCleaned();
        aRefusedCleanChangesNothing();
        oneBlockACall();
        Check.close();
    }

    /** The block that clean() answers for a store with these states, or NONE. */
    private static int cleanedOf(String states) {
        return cleaned(Check.storeOf(states));
    }

    private static int cleaned(FlashStore store) {
        try {
            return store.clean();
        } catch (IllegalStateException refused) {
            return NONE;
        }
    }

    /** "of the blocks that have not all pages free": they have the fewest used pages and the lowest numbers, too. */
    private static void allPagesFree() {
        Check.same("clean() of a new store", cleaned(new FlashStore()), NONE);
        Check.same("clean() of block 3 alone", cleanedOf("0000|0000|0000|1110"), 3);
        Check.same("clean() of one page", cleanedOf("0000|0000|0001|0000"), 2);
    }

    /** "have not four used ones" */
    private static void fourUsedPages() {
        Check.same("clean() of four used pages", cleanedOf("1111|0000|0000|0000"), NONE);
        Check.same("clean() of eight", cleanedOf("1111|0000|1111|0000"), NONE);
        Check.same("clean() of three used and one free", cleanedOf("1111|1110|0000|0000"), 1);
        Check.same("clean() of three used and one old", cleanedOf("1111|0000|0000|1121"), 3);
    }

    /** "have no more used ones than there are free ones in other blocks": just as many. */
    private static void asManyUsedAsFree() {
        Check.same("clean() with two and two", cleanedOf("1122|1122|1122|1100"), 0);
        Check.same("clean() with one and one", cleanedOf("1222|1222|1222|1220"), 0);
        Check.same("clean() with one in each of two blocks", cleanedOf("1122|1120|1122|1120"), 0);
    }

    /** "have no more used ones than there are free ones in other blocks": one more. */
    private static void moreUsedThanFree() {
        Check.same("clean() with two and one", cleanedOf("1122|1122|1122|1120"), NONE);
        Check.same("clean() with one and none", cleanedOf("1222|1222|1222|1222"), NONE);
        Check.same("clean() with the one for which there is room", cleanedOf("1122|1120|1122|1222"), 3);
    }

    /** "free ones in other blocks": those of the same block don't count. */
    private static void freePagesOfTheSameBlock() {
        Check.same("clean() with one of its own", cleanedOf("1122|1122|1122|1220"), NONE);
        Check.same("clean() with three of its own, that others can use", cleanedOf("1000|1122|1122|1122"), 1);
    }

    /** "have no more used ones than there are free ones in other blocks": none and none. */
    private static void noUsedAndNoFree() {
        Check.same("clean() of four old pages", cleanedOf("1122|1122|1122|2222"), 3);
        Check.same("clean() of old and free pages", cleanedOf("1122|2220|1122|1122"), 1);
    }

    /** "that with the fewest used pages" */
    private static void theFewestUsed() {
        Check.same("clean() of 3, 2, 1 and 0 used", cleanedOf("1112|1122|1222|2222"), 3);
        Check.same("clean() of 3, 2 and 1 used", cleanedOf("1112|1122|1222|0000"), 2);
        Check.same("clean() of 3 and 2 used", cleanedOf("1112|1122|0000|0000"), 1);
        Check.same("clean() of few used and many free", cleanedOf("0000|1110|1100|1110"), 2);
    }

    /** A store with one used page in block 0, which was erased once, as block 1 was, and one in block 2. */
    private static FlashStore wornStore() {
        FlashStore store = new FlashStore();
        store.write(0, 5);
        store.clean();
        store.clean();
        Check.forgeTag(store, 8, 1, 7);
        store.mount();
        Check.same("states made", Check.states(store), "1000|0000|1000|0000");
        Check.same("wear made", Check.wears(store), "1 1 0 0");
        return store;
    }

    /** "that with the fewest used pages, of several that with the least wear": wear comes second. */
    private static void theFewestUsedThoughWorn() {
        FlashStore store = wornStore();
        store.trim(0);
        Check.same("clean() of no used page", store.clean(), 0);
        Check.same("wear", Check.wears(store), "2 1 0 0");
    }

    /** "of several that with the least wear" */
    private static void theLeastWear() {
        FlashStore store = wornStore();
        Check.same("clean() of the less worn", store.clean(), 2);
        Check.same("states", Check.states(store), "1100|0000|0000|0000");
    }

    /** "of several the lowest" */
    private static void theLowest() {
        Check.same("clean() of all four", cleanedOf("1000|1000|1000|1000"), 0);
        Check.same("clean() of the last three", cleanedOf("0000|2000|2000|2000"), 1);
        Check.same("clean() of the last two", cleanedOf("1111|0000|1222|1222"), 2);
    }

    /** "each of its used pages, in order": of pages, not of logical numbers or serials. */
    private static void usedPagesInOrder() {
        FlashStore store = new FlashStore();
        Check.forgeTag(store, 0, 6, 30);
        Check.forgeTag(store, 2, 4, 10);
        Check.forgeTag(store, 3, 5, 20);
        store.mount();
        Check.same("clean()", store.clean(), 0);
        Check.same("places", Check.places(store), "-1 -1 -1 -1 5 6 4 -1");
        Check.same("the first tag", store.flash(1, 0, 4), store.encode(6 << 12 | 31));
        Check.same("the second tag", store.flash(1, 1, 4), store.encode(4 << 12 | 32));
        Check.same("the third tag", store.flash(1, 2, 4), store.encode(5 << 12 | 33));
        Check.same("serial()", store.serial(), 34);
    }

    /** "is READ, and its content is put anew": with three wrong bits in each word, they are gone. */
    private static void contentIsMended() {
        FlashStore store = new FlashStore();
        store.write(1, 0x0004000300020001L);
        for (int word = 0; word < 4; word++) {
            store.spoil(0, 0, word, 7 << 9 * word);
        }
        store.clean();
        for (int word = 0; word < 4; word++) {
            Check.same("word " + word, store.flash(1, 0, word), store.encode(word + 1));
        }
        Check.same("the tag", store.flash(1, 0, 4), store.encode(1 << 12 | 1));
    }

    /** "its content is put anew (as above": begun blocks first, then one that has none. */
    private static void aBegunBlockTakesThem() {
        FlashStore store = Check.storeOf("1122|0000|1111|1120");
        Check.same("clean()", store.clean(), 0);
        Check.same("states", Check.states(store), "0000|1000|1111|1121");
        Check.same("place(0)", store.place(0), 15);
        Check.same("place(1)", store.place(1), 4);
    }

    /** "never in this block": though it is begun and has free pages. */
    private static void neverInThisBlock() {
        FlashStore store = Check.storeOf("0100|0000|0000|0000");
        Check.same("clean()", store.clean(), 0);
        Check.same("states", Check.states(store), "0000|1000|0000|0000");
        Check.same("clean() again", store.clean(), 1);
        Check.same("states again", Check.states(store), "1000|0000|0000|0000");
    }

    /** "but without leaving a block free": the last free block takes the pages. */
    private static void noBlockIsLeftFree() {
        FlashStore store = Check.storeOf("1222|1111|1112|0000");
        Check.same("clean()", store.clean(), 0);
        Check.same("states", Check.states(store), "0000|1111|1112|1000");
        Check.same("wear", Check.wears(store), "1 0 0 0");
    }

    /** "but without leaving a block free": also when there was none. */
    private static void noBlockWasFree() {
        FlashStore store = Check.storeOf("1222|1111|1122|1220");
        Check.same("clean()", store.clean(), 0);
        Check.same("states", Check.states(store), "0000|1111|1122|1221");
        Check.same("place(0)", store.place(0), 15);
    }

    /** "To PROGRAM a page .. makes each word the AND": also where a cleaning puts it. */
    private static void programmingOverZeros() {
        FlashStore store = Check.storeOf("1000|0000|0000|0000");
        store.spoil(1, 0, 1, 5);
        store.spoil(1, 0, 2, Check.ALL_ONES);
        Check.same("clean()", store.clean(), 0);
        Check.same("word 1", store.flash(1, 0, 1), Check.ALL_ONES ^ 5);
        Check.same("read(0)", store.read(0), 0xFFFF0000FFFFFFFFL);
    }

    /** "one that can't be read is left out, and its logical page has nothing then": each of its words. */
    private static void onePageThatCantBeRead() {
        for (int word = 0; word < 4; word++) {
            FlashStore store = Check.storeOf("1110|0000|0000|0000");
            store.spoil(0, 1, word, 15);
            Check.same("clean()", store.clean(), 0);
            Check.same("places", Check.places(store), "4 -1 5 -1 -1 -1 -1 -1");
            Check.same("states", Check.states(store), "0000|1100|0000|0000");
            Check.same("serial()", store.serial(), 5);
            Check.refuses("read(1)", Check.STATE, () -> store.read(1));
        }
    }

    /** "one that can't be read is left out": all of them. */
    private static void allPagesThatCantBeRead() {
        FlashStore store = Check.storeOf("1110|0000|0000|0000");
        Check.loseContent(store, 0);
        Check.loseContent(store, 1);
        Check.loseContent(store, 2);
        Check.same("clean()", store.clean(), 0);
        Check.same("places", Check.places(store), "-1 -1 -1 -1 -1 -1 -1 -1");
        Check.same("states", Check.states(store), "0000|0000|0000|0000");
        Check.same("serial()", store.serial(), 3);
        Check.same("mount()", store.mount(), 0);
    }

    /** "have no more used ones": a page that can't be read is used until it is left out. */
    private static void pagesThatCantBeReadCountAsUsed() {
        FlashStore full = Check.storeOf("1122|1122|1122|1122");
        for (int place = 0; place < 16; place++) {
            Check.loseContent(full, place);
        }
        Check.same("clean() of a full store", cleaned(full), NONE);
        FlashStore four = Check.storeOf("1111|0000|0000|0000");
        Check.loseContent(four, 2);
        Check.same("clean() of four used pages", cleaned(four), NONE);
        FlashStore two = Check.storeOf("1122|1222|0000|0000");
        Check.loseContent(two, 0);
        Check.loseContent(two, 1);
        Check.same("clean() of the fewest used", cleaned(two), 1);
    }

    /** "one that can't be read is left out": the next one takes the place and the serial. */
    private static void anUnreadablePageTakesNoPlace() {
        FlashStore store = Check.storeOf("1122|1122|1122|1100");
        Check.loseContent(store, 0);
        Check.same("clean()", store.clean(), 0);
        Check.same("states", Check.states(store), "0000|1122|1122|1110");
        Check.same("the tag", store.flash(3, 2, 4), store.encode(1 << 12 | 14));
    }

    /** "each of its used pages": the old ones are not moved, and a mount does not find them again. */
    private static void oldPagesAreLeft() {
        FlashStore store = new FlashStore();
        store.write(0, 1);
        store.write(1, 2);
        store.trim(0);
        Check.same("clean()", store.clean(), 0);
        Check.same("states", Check.states(store), "0000|1000|0000|0000");
        Check.same("mount()", store.mount(), 1);
        Check.same("place(0)", store.place(0), NONE);
    }

    /** "Then the block is erased: its pages are free." */
    private static void theBlockIsErased() {
        FlashStore store = Check.storeOf("1111|1111|0000|2020");
        store.spoil(3, 1, 2, 9);
        Check.same("clean()", store.clean(), 3);
        for (int at = 0; at < 20; at++) {
            Check.same("word " + at, store.flash(3, at / 5, at % 5), Check.ALL_ONES);
        }
        Check.same("states", Check.states(store), "1111|1111|0000|0000");
        store.mount();
        Check.same("states of a mount", Check.states(store), "1111|1111|0000|0000");
    }

    /** "Cleans one block, as above: which one": the one whose wear grows, from the first to the last. */
    private static void whichOneWasCleaned() {
        FlashStore store = Check.storeOf("2000|2000|2000|2000");
        for (int block = 0; block < 4; block++) {
            Check.same("clean() number " + block, store.clean(), block);
            Check.same("wear(" + block + ")", store.wear(block), 1);
        }
        Check.same("clean() of nothing more", cleaned(store), NONE);
        Check.same("wear", Check.wears(store), "1 1 1 1");
    }

    /** "IllegalStateException: it can't": and nothing changes. */
    private static void aRefusedCleanChangesNothing() {
        for (String states : new String[] {"0000|0000|0000|0000", "1111|0000|1111|0000", "1122|1122|1122|1120"}) {
            FlashStore store = Check.storeOf(states);
            String before = Check.picture(store);
            Check.refuses("clean() of " + states, Check.STATE, () -> store.clean());
            Check.same("all after a refused clean", Check.picture(store), before);
        }
    }

    /** "Cleans one block": though a write would go on. */
    private static void oneBlockACall() {
        FlashStore store = Check.storeOf("1111|1111|2222|2222");
        Check.same("clean()", store.clean(), 2);
        Check.same("states", Check.states(store), "1111|1111|0000|2222");
    }
}
