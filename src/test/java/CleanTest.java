/** Promises 5, 11 and 14: a write that must clean, a full store, clean, wear. */
public final class CleanTest {
    public static void main(String[] args) {
        aNewStoreCantBeCleaned();
        aWriteLeavesABlockFree();
        aWriteCleansWhenNoBlockIsFreeAlready();
        aWriteCleansTwiceWhenOneIsNotEnough();
        theFewestUsedPagesAreChosenFirst();
        thenTheLeastWearThenTheLowest();
        fourUsedPagesAreNotCleaned();
        cleaningMovesPagesInOrderWithNewSerials();
        cleaningMendsWhatItMoves();
        cleaningNeverPutsInItsOwnBlock();
        cleaningNeedsNoFreeBlock();
        cleaningForgetsWhatCantBeRead();
        cleaningRefusesABlockThatDoesNotFit();
        aFullStoreRefusesAWrite();
        Check.close();
    }

    private static void writeAll(FlashStore store, int... pages) {
        for (int page : pages) {
            store.write(page, 100 * page + store.serial());
        }
    }

    private static void aNewStoreCantBeCleaned() {
        FlashStore store = new FlashStore();
        Check.refuses("clean() of a new store", Check.STATE, () -> store.clean());
        Check.same("wear", Check.wears(store), "0 0 0 0");
    }

    private static void aWriteLeavesABlockFree() {
        FlashStore store = new FlashStore();
        writeAll(store, 0, 1, 2, 3, 0, 1, 2, 4, 0, 1, 2, 5);
        Check.same("twelve pages", Check.states(store), "2221|2221|1111|0000");
        Check.same("no wear yet", Check.wears(store), "0 0 0 0");
        writeAll(store, 6);
        Check.same("the thirteenth", Check.states(store), "0000|2221|1111|1100");
        Check.same("places", Check.places(store), "8 9 10 12 7 11 13 -1");
        Check.same("wear", Check.wears(store), "1 0 0 0");
        Check.same("serial()", store.serial(), 14);
        Check.same("read(3)", store.read(3), 303);
        Check.same("read(6)", store.read(6), 612);
    }

    /** Block 3 has been begun by a tag from outside, so no block is free: a write must make one so. */
    private static void aWriteCleansWhenNoBlockIsFreeAlready() {
        FlashStore store = new FlashStore();
        writeAll(store, 0, 1, 2, 3, 0, 1, 2, 4, 0, 1, 2);
        Check.loseTag(store, 12);
        store.mount();
        Check.same("no block free", Check.states(store), "2221|2221|1110|2000");
        writeAll(store, 5);
        Check.same("block 3 was cleaned", Check.states(store), "2221|2221|1111|0000");
        Check.same("wear", Check.wears(store), "0 0 0 1");
    }

    /** The first cleaning fills the last begun block, so the write would take the block just freed. */
    private static void aWriteCleansTwiceWhenOneIsNotEnough() {
        FlashStore store = new FlashStore();
        for (int block = 0; block < 4; block++) {
            Check.forgeTag(store, 4 * block, 2 * block, 10 + block);
            Check.forgeTag(store, 4 * block + 1, 2 * block + 1, 20 + block);
            if (block < 3) {
                Check.loseTag(store, 4 * block + 2);
                Check.loseTag(store, 4 * block + 3);
            }
        }
        Check.same("mount()", store.mount(), 8);
        Check.same("no block is free", Check.states(store), "1122|1122|1122|1100");
        store.write(7, 70);
        Check.same("wear", Check.wears(store), "1 1 0 0");
        Check.same("states", Check.states(store), "1110|0000|1122|1211");
        Check.same("places", Check.places(store), "14 15 0 1 8 9 12 2");
        Check.same("serial()", store.serial(), 29);
    }

    private static void theFewestUsedPagesAreChosenFirst() {
        FlashStore store = new FlashStore();
        writeAll(store, 0, 1, 2, 3, 4, 5, 6, 7, 0, 1, 4, 5);
        Check.same("states", Check.states(store), "2211|2211|1111|0000");
        store.trim(6);
        Check.same("clean()", store.clean(), 1);
        Check.same("states then", Check.states(store), "2211|0000|1111|1000");
        Check.same("place(7)", store.place(7), 12);
    }

    private static void thenTheLeastWearThenTheLowest() {
        FlashStore store = new FlashStore();
        writeAll(store, 0, 0, 0, 0, 0);
        Check.same("clean() of four old pages", store.clean(), 0);
        writeAll(store, 0, 0, 0, 0, 0);
        Check.same("states", Check.states(store), "2100|2222|0000|0000");
        Check.same("clean() of block 1", store.clean(), 1);
        Check.loseTag(store, 8);
        Check.loseTag(store, 12);
        store.mount();
        store.trim(0);
        Check.same("three blocks of no used page", Check.states(store), "2200|0000|2000|2000");
        Check.same("wear", Check.wears(store), "1 1 0 0");
        Check.same("the least worn, the lowest", store.clean(), 2);
        Check.same("the least worn", store.clean(), 3);
        Check.same("the last", store.clean(), 0);
        Check.refuses("all free", Check.STATE, () -> store.clean());
        Check.same("wear then", Check.wears(store), "2 1 1 1");
    }

    private static void fourUsedPagesAreNotCleaned() {
        FlashStore store = new FlashStore();
        writeAll(store, 0, 1, 2, 3);
        Check.refuses("clean() of four used pages", Check.STATE, () -> store.clean());
        Check.same("states", Check.states(store), "1111|0000|0000|0000");
        writeAll(store, 4, 5, 6);
        Check.same("clean() of three used and one free", store.clean(), 1);
        Check.same("states then", Check.states(store), "1111|0000|1110|0000");
    }

    private static void cleaningMovesPagesInOrderWithNewSerials() {
        FlashStore store = new FlashStore();
        writeAll(store, 7, 2, 5, 2);
        Check.same("states", Check.states(store), "1211|0000|0000|0000");
        Check.same("clean()", store.clean(), 0);
        Check.same("states then", Check.states(store), "0000|1110|0000|0000");
        Check.same("places", Check.places(store), "-1 -1 6 -1 -1 5 -1 4");
        Check.same("the first tag", store.flash(1, 0, 4), store.encode(7 << 12 | 4));
        Check.same("the second tag", store.flash(1, 1, 4), store.encode(5 << 12 | 5));
        Check.same("the third tag", store.flash(1, 2, 4), store.encode(2 << 12 | 6));
        Check.same("read(2)", store.read(2), 203);
        Check.same("serial()", store.serial(), 7);
        for (int at = 0; at < 20; at++) {
            Check.same("erased " + at, store.flash(0, at / 5, at % 5), Check.ALL_ONES);
        }
    }

    private static void cleaningMendsWhatItMoves() {
        FlashStore store = new FlashStore();
        store.write(1, 0x1111222233334444L);
        for (int word = 0; word < 4; word++) {
            store.spoil(0, 0, word, 7 << (5 * word + 10));
        }
        store.spoil(0, 0, 4, Check.ALL_ONES);
        Check.same("clean()", store.clean(), 0);
        Check.same("word 0", store.flash(1, 0, 0), store.encode(0x4444));
        Check.same("word 3", store.flash(1, 0, 3), store.encode(0x1111));
        Check.same("the tag is what the store knows", store.flash(1, 0, 4), store.encode(1 << 12 | 1));
    }

    private static void cleaningNeverPutsInItsOwnBlock() {
        FlashStore store = new FlashStore();
        writeAll(store, 3);
        Check.same("clean()", store.clean(), 0);
        Check.same("states", Check.states(store), "0000|1000|0000|0000");
        Check.same("clean() back", store.clean(), 1);
        Check.same("states then", Check.states(store), "1000|0000|0000|0000");
        Check.same("read(3)", store.read(3), 300);
        Check.same("wear", Check.wears(store), "1 1 0 0");
    }

    /** A write would have to leave block 3 free; a cleaning may take it. */
    private static void cleaningNeedsNoFreeBlock() {
        FlashStore store = new FlashStore();
        writeAll(store, 0, 1, 2, 3, 4, 5, 6, 7, 0, 1, 2, 3);
        store.trim(0);
        for (int place = 0; place < 4; place++) {
            Check.forgeTag(store, 12 + place, 8, 0);
        }
        store.mount();
        Check.same("states", Check.states(store), "2222|1111|1111|2222");
        store.trim(4);
        Check.same("no used page: block 0", store.clean(), 0);
        Check.same("no used page: block 3", store.clean(), 3);
        Check.same("three used pages", store.clean(), 1);
        Check.same("states then", Check.states(store), "1110|0000|1111|0000");
    }

    private static void cleaningForgetsWhatCantBeRead() {
        FlashStore store = new FlashStore();
        writeAll(store, 0, 1, 2, 2);
        store.spoil(0, 1, 3, 0x40404040 | 1);
        store.spoil(0, 1, 3, 2 | 8);
        Check.same("clean()", store.clean(), 0);
        Check.same("places", Check.places(store), "4 -1 5 -1 -1 -1 -1 -1");
        Check.same("states", Check.states(store), "0000|1100|0000|0000");
        Check.same("serial()", store.serial(), 6);
        Check.refuses("read(1)", Check.STATE, () -> store.read(1));
        Check.same("trim(1)", store.trim(1), false);
        Check.same("mount()", store.mount(), 2);
    }

    private static void cleaningRefusesABlockThatDoesNotFit() {
        FlashStore store = new FlashStore();
        fillWithTwoUsedPerBlock(store);
        Check.refuses("clean() with no free page", Check.STATE, () -> store.clean());
        Check.same("clean() with a free page in another block", cleanedOf("1122|1220|1122|1222"), 3);
        Check.same("clean() with two free pages", cleanedOf("1122|1122|1122|1100"), 0);
        Check.same("clean() with a free page in the block alone", cleanedOf("1122|1220|1122|1122"), -1);
        Check.same("clean() beside four used pages", cleanedOf("1111|1110|0000|0000"), 1);
        Check.same("clean() of four used pages alone", cleanedOf("1111|0000|1111|0000"), -1);
    }

    /** Makes a store with these states from outside and cleans it: the block, or -1. */
    private static int cleanedOf(String states) {
        FlashStore store = Check.storeOf(states);
        try {
            return store.clean();
        } catch (IllegalStateException refused) {
            return -1;
        }
    }

    private static void fillWithTwoUsedPerBlock(FlashStore store) {
        for (int block = 0; block < 4; block++) {
            Check.forgeTag(store, 4 * block, 2 * block, 1);
            Check.forgeTag(store, 4 * block + 1, 2 * block + 1, 2);
            Check.loseTag(store, 4 * block + 2);
            Check.loseTag(store, 4 * block + 3);
        }
        store.mount();
    }

    private static void aFullStoreRefusesAWrite() {
        FlashStore store = new FlashStore();
        fillWithTwoUsedPerBlock(store);
        Check.same("states", Check.states(store), "1122|1122|1122|1122");
        Check.refuses("write(0)", Check.STATE, () -> store.write(0, 1));
        Check.refuses("write(8) of a full store", Check.ARGUMENT, () -> store.write(8, 1));
        Check.same("states then", Check.states(store), "1122|1122|1122|1122");
        Check.same("serial()", store.serial(), 3);
        Check.same("wear", Check.wears(store), "0 0 0 0");
        Check.same("read(0)", store.read(0), -1);
        store.trim(2);
        store.trim(3);
        Check.accepts("write(0) with room again", () -> store.write(0, 1));
        Check.same("at last", Check.states(store), "0000|2110|1122|1122");
        Check.same("wear at last", Check.wears(store), "1 1 0 0");
    }
}
