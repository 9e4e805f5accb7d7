/**
 * The boundary cases of promises 5 and 15: where a write goes, when it cleans, when the store is full, and the
 * serials. Each method tests the sentence of the document that it quotes.
 */
public final class WriteEdgesTest {
    public static void main(String[] args) {
        aBlockWithUsedPagesComesFirst();
        aBlockWithOldPagesComesFirst();
        theFirstOfSeveralBegunBlocks();
        aFullBlockIsPassedOver();
        otherwiseABlockThatHasNone();
        twoFreeBlocksAreEnough();
        oneFreeBlockIsEnoughBesideABegunOne();
        theLastFreeBlockIsNotTaken();
        theLastFreeBlockMayBeTheFirst();
        noFreeBlockThoughAPageIsFree();
        aCleaningThatMovesPages();
        aWriteOfAPageThatIsMovedForIt();
        oneCleaningIsNotEnough();
        cleaningsThatMoveNothing();
        aWriteAfterAFullBegunBlock();
        thePageBeforeIsOld();
        noPageBefore();
        aFullStore();
        aFullStoreWithAPageFree();
        justNotFull();
        aFullStoreStaysAsItWas();
        aFullStoreHasRoomAfterTrims();
        whatWasCleanedStaysSo();
        theFirstSerials();
        aWriteAtTheWrap();
        aCleaningAtTheWrap();
        callsThatTakeNoSerial();
        Check.close();
    }

    /** Writes logical page 7 into a store with these states, which has used fewer than eight. */
    private static FlashStore written(String states) {
        FlashStore store = Check.storeOf(states);
        store.write(7, 77);
        Check.same("read(7) in " + states, store.read(7), 77);
        return store;
    }

    private static void writeGoesTo(String states, int place) {
        FlashStore store = written(states);
        Check.same("place(7) in " + states, store.place(7), place);
        Check.same("wear in " + states, Check.wears(store), "0 0 0 0");
    }

    /** "the first free page .. of a block that has USED .. pages already" */
    private static void aBlockWithUsedPagesComesFirst() {
        writeGoesTo("0000|0000|1000|0000", 9);
        writeGoesTo("0000|0000|0001|0000", 8);
        writeGoesTo("0000|0000|0000|1110", 15);
        writeGoesTo("0000|0000|0000|1101", 14);
    }

    /** "the first free page .. of a block that has .. OLD pages already" */
    private static void aBlockWithOldPagesComesFirst() {
        writeGoesTo("0000|0000|2000|0000", 9);
        writeGoesTo("0000|0000|0002|0000", 8);
        writeGoesTo("0000|0000|0000|2220", 15);
    }

    /** "the first free page in the order of blocks and pages" */
    private static void theFirstOfSeveralBegunBlocks() {
        writeGoesTo("0000|1220|0000|2000", 7);
        writeGoesTo("0000|2000|0000|1220", 5);
        writeGoesTo("0111|2000|0000|1220", 0);
    }

    /** "the first free page .. of a block that has USED or OLD pages already": a full one has no free page. */
    private static void aFullBlockIsPassedOver() {
        writeGoesTo("1111|0000|2220|0000", 11);
        writeGoesTo("2222|0000|1112|1000", 13);
    }

    /** "otherwise of a block that has none" */
    private static void otherwiseABlockThatHasNone() {
        writeGoesTo("0000|0000|0000|0000", 0);
        writeGoesTo("1111|0000|0000|0000", 4);
        writeGoesTo("0000|2222|0000|1112", 0);
    }

    /** "a write of the host leaves one whole block free": taking one of two leaves one. */
    private static void twoFreeBlocksAreEnough() {
        writeGoesTo("2222|2222|0000|0000", 8);
        writeGoesTo("0000|2222|2222|0000", 0);
    }

    /** "a write of the host leaves one whole block free": a begun block's last page takes none. */
    private static void oneFreeBlockIsEnoughBesideABegunOne() {
        writeGoesTo("2222|2222|2220|0000", 11);
        writeGoesTo("0000|2222|2222|2220", 15);
    }

    /** "when there would be none left with all pages free, first it CLEANS" */
    private static void theLastFreeBlockIsNotTaken() {
        FlashStore store = written("2222|2222|2222|0000");
        Check.same("states", Check.states(store), "1000|2222|2222|0000");
        Check.same("wear", Check.wears(store), "1 0 0 0");
    }

    /** "when there would be none left with all pages free, first it CLEANS": whichever block it is. */
    private static void theLastFreeBlockMayBeTheFirst() {
        FlashStore store = written("0000|2222|2222|2222");
        Check.same("states", Check.states(store), "1000|0000|2222|2222");
        Check.same("wear", Check.wears(store), "0 1 0 0");
    }

    /** "when there would be none left with all pages free, first it CLEANS": also when there was none before. */
    private static void noFreeBlockThoughAPageIsFree() {
        FlashStore store = written("2222|2222|2220|2000");
        Check.same("states", Check.states(store), "0000|2222|2221|2000");
        Check.same("wear", Check.wears(store), "1 0 0 0");
    }

    /** "first it CLEANS": the pages moved go before the one that is written. */
    private static void aCleaningThatMovesPages() {
        FlashStore store = Check.storeOf("1111|1122|1122|0000");
        store.write(0, 5);
        Check.same("states", Check.states(store), "2111|0000|1122|1110");
        Check.same("places", Check.places(store), "14 1 2 3 12 13 8 9");
        Check.same("wear", Check.wears(store), "0 1 0 0");
        Check.same("serial()", store.serial(), 13);
    }

    /** "the page that was used by that logical page before is old": the place that the cleaning gave it. */
    private static void aWriteOfAPageThatIsMovedForIt() {
        FlashStore store = Check.storeOf("1111|1122|1122|0000");
        store.write(4, 5);
        Check.same("states", Check.states(store), "1111|0000|1122|2110");
        Check.same("places", Check.places(store), "0 1 2 3 14 13 8 9");
        Check.same("read(4)", store.read(4), 5);
        Check.same("the moved content", store.flash(3, 0, 0), Check.ALL_ONES);
    }

    /** "first it CLEANS, until there is": the first cleaning fills the last begun block. */
    private static void oneCleaningIsNotEnough() {
        FlashStore store = Check.storeOf("1122|1122|1122|1200");
        store.write(0, 5);
        Check.same("wear", Check.wears(store), "1 1 0 0");
        Check.same("states", Check.states(store), "1110|0000|1122|1221");
        Check.same("places", Check.places(store), "2 15 0 1 8 9 12 -1");
    }

    /** "first it CLEANS, until there is": the block just cleaned would be the one to take. */
    private static void cleaningsThatMoveNothing() {
        FlashStore store = Check.storeOf("1111|1111|2222|2222");
        store.write(0, 5);
        Check.same("wear", Check.wears(store), "0 0 1 1");
        Check.same("states", Check.states(store), "2111|1111|1000|0000");
    }

    /** "first it CLEANS, until there is": no more often than it must. */
    private static void aWriteAfterAFullBegunBlock() {
        FlashStore store = written("2222|2222|2221|0000");
        Check.same("wear at the thirteenth page", Check.wears(store), "1 0 0 0");
        store.write(7, 1);
        store.write(7, 2);
        store.write(7, 3);
        Check.same("wear at the sixteenth", Check.wears(store), "1 0 0 0");
        Check.same("states at the sixteenth", Check.states(store), "2221|2222|2221|0000");
        store.write(7, 4);
        Check.same("wear at the seventeenth", Check.wears(store), "1 1 0 0");
        Check.same("states at the seventeenth", Check.states(store), "2222|1000|2221|0000");
    }

    /** "the place is used; the page that was used by that logical page before is old" */
    private static void thePageBeforeIsOld() {
        FlashStore store = Check.storeOf("0000|0000|0000|1000");
        store.write(0, 1);
        Check.same("states", Check.states(store), "0000|0000|0000|2100");
        Check.same("place(0)", store.place(0), 13);
    }

    /** "the page that was used by that logical page before is old": no other one. */
    private static void noPageBefore() {
        FlashStore store = Check.storeOf("1100|0000|0000|0000");
        store.write(5, 1);
        Check.same("states", Check.states(store), "1110|0000|0000|0000");
        store.trim(5);
        store.write(5, 2);
        Check.same("states after a trim", Check.states(store), "1121|0000|0000|0000");
    }

    private static void fullFor(String states) {
        FlashStore store = Check.storeOf(states);
        Check.refuses("write(0, 1) in " + states, Check.STATE, () -> store.write(0, 1));
        Check.refuses("write(7, 1) in " + states, Check.STATE, () -> store.write(7, 1));
    }

    /** "When there is no such block, it can't clean, and for a write the store is FULL": no page is free. */
    private static void aFullStore() {
        fullFor("1122|1122|1122|1122");
        fullFor("1222|2122|2212|2221");
        fullFor("1112|1112|1222|1222");
        fullFor("1111|1122|1222|1222");
    }

    /** "When there is no such block, it can't clean, and for a write the store is FULL": though a page is free. */
    private static void aFullStoreWithAPageFree() {
        fullFor("1122|1122|1122|1120");
        fullFor("1122|1122|1122|1220");
        fullFor("1120|1122|1122|1122");
    }

    /** "have no more used ones than there are free ones in other blocks": just as many will do. */
    private static void justNotFull() {
        FlashStore twos = Check.storeOf("1122|1122|1122|1100");
        Check.accepts("write(0, 1) with two pages free", () -> twos.write(0, 1));
        FlashStore ones = Check.storeOf("1222|1222|1222|1220");
        Check.accepts("write(0, 1) with one page free", () -> ones.write(0, 1));
        FlashStore none = Check.storeOf("1122|1122|1122|2222");
        Check.accepts("write(0, 1) beside old pages alone", () -> none.write(0, 1));
    }

    /** "IllegalStateException: the store is full": and nothing changes. */
    private static void aFullStoreStaysAsItWas() {
        FlashStore store = Check.storeOf("1122|1122|1122|1120");
        String before = Check.picture(store);
        Check.refuses("write(0, 1)", Check.STATE, () -> store.write(0, 1));
        Check.refuses("write(7, 1)", Check.STATE, () -> store.write(7, 1));
        Check.same("all after refused writes", Check.picture(store), before);
    }

    /** "the store is full": as long as no block can be cleaned. */
    private static void aFullStoreHasRoomAfterTrims() {
        FlashStore store = Check.storeOf("1122|1122|1122|1122");
        store.trim(2);
        Check.refuses("write(0, 1) after one trim", Check.STATE, () -> store.write(0, 1));
        store.trim(3);
        Check.accepts("write(0, 1) after two trims", () -> store.write(0, 1));
        Check.same("read(0)", store.read(0), 1);
        // Block 1 is cleaned, but the write would take it; block 0 is cleaned into it.
        Check.same("states", Check.states(store), "0000|2110|1122|1122");
        Check.same("wear", Check.wears(store), "1 1 0 0");
    }

    /** "(what was cleaned before stays so)" */
    private static void whatWasCleanedStaysSo() {
        FlashStore store = Check.storeOf("2222|1122|1122|1122");
        Check.same("clean()", store.clean(), 0);
        for (int page = 0; page < 4; page++) {
            Check.forgeTag(store, page, 6 + page / 2, 100 + page % 2);
        }
        store.mount();
        store.trim(6);
        Check.same("states made", Check.states(store), "2221|1122|1122|1122");
        String before = Check.picture(store);
        Check.refuses("write(0, 1)", Check.STATE, () -> store.write(0, 1));
        Check.same("all after a refused write", Check.picture(store), before);
        Check.same("wear", Check.wears(store), "1 0 0 0");
    }

    /** "There is a serial that is NEXT (0 at first": each page put takes one. */
    private static void theFirstSerials() {
        FlashStore store = new FlashStore();
        Check.same("serial() at first", store.serial(), 0);
        for (int write = 0; write < 5; write++) {
            store.write(1, 0);
            Check.same("serial()", store.serial(), write + 1);
            Check.same("the tag", store.flash(write / 4, write % 4, 4), store.encode(1 << 12 | write));
        }
    }

    /** A store whose next serial is 4094. */
    private static FlashStore atTheWrap() {
        FlashStore store = new FlashStore();
        Check.forgeTag(store, 0, 2, 4093);
        store.mount();
        Check.same("serial() of a mount at 4093", store.serial(), 4094);
        return store;
    }

    /** "behind 4094 comes 0 again": by writes. */
    private static void aWriteAtTheWrap() {
        FlashStore store = atTheWrap();
        store.write(3, 30);
        Check.same("the tag with 4094", store.flash(0, 1, 4), store.encode(3 << 12 | 4094));
        Check.same("serial()", store.serial(), 0);
        store.write(3, 31);
        Check.same("the tag with 0", store.flash(0, 2, 4), store.encode(3 << 12));
        Check.same("serial() then", store.serial(), 1);
        Check.same("mount()", store.mount(), 2);
        Check.same("read(3)", store.read(3), 31);
        Check.same("serial() of the mount", store.serial(), 1);
    }

    /** "behind 4094 comes 0 again": by a cleaning. */
    private static void aCleaningAtTheWrap() {
        FlashStore store = new FlashStore();
        Check.forgeTag(store, 0, 2, 4092);
        Check.forgeTag(store, 1, 3, 4093);
        Check.forgeTag(store, 2, 4, 4091);
        store.mount();
        Check.same("clean()", store.clean(), 0);
        Check.same("the tag with 4094", store.flash(1, 0, 4), store.encode(2 << 12 | 4094));
        Check.same("the tag with 0", store.flash(1, 1, 4), store.encode(3 << 12));
        Check.same("the tag with 1", store.flash(1, 2, 4), store.encode(4 << 12 | 1));
        Check.same("serial()", store.serial(), 2);
    }

    /** "The next serial": refused writes, trims, reads and cleanings that move nothing leave it. */
    private static void callsThatTakeNoSerial() {
        FlashStore store = Check.storeOf("1000|0000|0000|2000");
        store.read(0);
        Check.refuses("write(8, 1)", Check.ARGUMENT, () -> store.write(8, 1));
        Check.same("clean() of old pages", store.clean(), 3);
        store.trim(0);
        store.decode(store.encode(9));
        Check.same("serial()", store.serial(), 1);
    }
}
