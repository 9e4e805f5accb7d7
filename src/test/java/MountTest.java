/** Promises 10 and 15: mount, serial. */
public final class MountTest {
    public static void main(String[] args) {
        mountFindsWhatWasWritten();
        mountTakesTheNewest();
        newerIsOneToTwoThousand();
        aNewerOneIsFoundAcrossTheWrap();
        serialsWrapBehind4094();
        spoiltPagesAreOld();
        threeWrongBitsOfATagAreMended();
        aFreePageThatLosesItsTag();
        nextSerialIsKeptFromTheFirst();
        nextSerialCountsPagesThatWereNotTaken();
        mountLeavesFlashAndWear();
        Check.close();
    }

    private static void mountFindsWhatWasWritten() {
        FlashStore store = new FlashStore();
        Check.same("mount() of nothing", store.mount(), 0);
        Check.same("serial() of nothing", store.serial(), 0);
        for (int write = 0; write < 40; write++) {
            store.write(write % 7, write);
        }
        String states = Check.states(store);
        String places = Check.places(store);
        int serial = store.serial();
        Check.same("mount()", store.mount(), 7);
        Check.same("places", Check.places(store), places);
        Check.same("states", Check.states(store), states);
        Check.same("serial()", store.serial(), serial);
        for (int page = 0; page < 7; page++) {
            Check.same("read(" + page + ")", store.read(page), 33 + (page + 2) % 7);
        }
    }

    private static void mountTakesTheNewest() {
        FlashStore store = new FlashStore();
        Check.forgeTag(store, 2, 4, 50);
        Check.forgeTag(store, 5, 4, 49);
        Check.forgeTag(store, 9, 4, 51);
        Check.forgeTag(store, 15, 4, 51);
        Check.same("mount()", store.mount(), 1);
        Check.same("place(4)", store.place(4), 9);
        Check.same("states", Check.states(store), "0020|0200|0100|0002");
        Check.same("serial()", store.serial(), 52);
    }

    private static void newerIsOneToTwoThousand() {
        Check.same("by 0", placeOfTwo(700, 700), 0);
        Check.same("by 1", placeOfTwo(700, 701), 1);
        Check.same("by 2000", placeOfTwo(700, 2700), 1);
        Check.same("by 2001", placeOfTwo(700, 2701), 0);
        Check.same("by -1", placeOfTwo(700, 699), 0);
        Check.same("by -2094", placeOfTwo(3000, 906), 0);
        Check.same("by -2095", placeOfTwo(3000, 905), 1);
        Check.same("serial() by 2000", serialOfTwo(700, 2700), 2701);
        Check.same("serial() by 2001", serialOfTwo(700, 2701), 701);
    }

    private static int placeOfTwo(int first, int second) {
        FlashStore store = new FlashStore();
        Check.forgeTag(store, 0, 3, first);
        Check.forgeTag(store, 1, 3, second);
        store.mount();
        return store.place(3);
    }

    private static int serialOfTwo(int first, int second) {
        FlashStore store = new FlashStore();
        Check.forgeTag(store, 0, 3, first);
        Check.forgeTag(store, 1, 4, second);
        store.mount();
        return store.serial();
    }

    private static void aNewerOneIsFoundAcrossTheWrap() {
        Check.same("0 behind 4094", placeOfTwo(4094, 0), 1);
        Check.same("4094 behind 0", placeOfTwo(0, 4094), 0);
        Check.same("1999 behind 4094", placeOfTwo(4094, 1999), 1);
        Check.same("2000 behind 4094", placeOfTwo(4094, 2000), 0);
        Check.same("serial() behind 0", serialOfTwo(4094, 0), 1);
        Check.same("serial() behind 4094", serialOfTwo(0, 4094), 1);
    }

    private static void serialsWrapBehind4094() {
        FlashStore store = new FlashStore();
        Check.forgeTag(store, 0, 1, 4092);
        store.mount();
        Check.same("serial()", store.serial(), 4093);
        store.write(1, 5);
        Check.same("serial() then", store.serial(), 4094);
        store.write(1, 6);
        Check.same("serial() wrapped", store.serial(), 0);
        store.write(1, 7);
        Check.same("the tag", store.flash(0, 3, 4), store.encode(1 << 12));
        Check.same("mount()", store.mount(), 1);
        Check.same("read(1)", store.read(1), 7);
        Check.same("serial() at last", store.serial(), 1);
        FlashStore last = new FlashStore();
        Check.forgeTag(last, 0, 1, 4094);
        last.mount();
        Check.same("serial() of a mount at 4094", last.serial(), 0);
    }

    private static void spoiltPagesAreOld() {
        FlashStore store = new FlashStore();
        Check.forgeTag(store, 0, 8, 100);
        Check.forgeTag(store, 1, 15, 4094);
        Check.loseTag(store, 2);
        Check.forgeTag(store, 3, 7, 30);
        Check.same("mount()", store.mount(), 1);
        Check.same("states", Check.states(store), "2221|0000|0000|0000");
        Check.same("serial() of the unspoilt", store.serial(), 31);
        Check.same("read(7)", store.read(7), -1);
    }

    private static void threeWrongBitsOfATagAreMended() {
        FlashStore store = new FlashStore();
        store.write(6, 60);
        store.write(6, 61);
        store.spoil(0, 1, 4, 1 << 30 | 1 << 14 | 1);
        Check.same("mount()", store.mount(), 1);
        Check.same("read(6)", store.read(6), 61);
        store.spoil(0, 1, 4, 1 << 20);
        Check.same("mount() of a lost tag", store.mount(), 1);
        Check.same("read(6) before it", store.read(6), 60);
        Check.same("states", Check.states(store), "1200|0000|0000|0000");
        Check.same("serial()", store.serial(), 1);
    }

    private static void aFreePageThatLosesItsTag() {
        FlashStore store = new FlashStore();
        store.spoil(2, 2, 4, 7);
        store.spoil(2, 2, 0, Check.ALL_ONES);
        store.mount();
        Check.same("three bits: free", store.state(2, 2), 0);
        store.spoil(2, 2, 4, 8);
        Check.same("mount()", store.mount(), 0);
        Check.same("four bits: old", store.state(2, 2), 2);
        store.spoil(2, 2, 4, 8);
        store.mount();
        Check.same("free again", store.state(2, 2), 0);
    }

    private static void nextSerialIsKeptFromTheFirst() {
        FlashStore store = new FlashStore();
        Check.forgeTag(store, 0, 0, 1000);
        Check.forgeTag(store, 1, 1, 3000);
        Check.forgeTag(store, 2, 2, 900);
        Check.forgeTag(store, 3, 3, 2500);
        Check.same("mount()", store.mount(), 4);
        // 3000 is newer than 1000, 900 (= 4995 - 4095) is newer than 3000, 2500 is newer than 900.
        Check.same("serial()", store.serial(), 2501);
    }

    /** Every page that is neither free nor spoilt counts, as the document's last words on mounting say. */
    private static void nextSerialCountsPagesThatWereNotTaken() {
        FlashStore store = new FlashStore();
        Check.forgeTag(store, 0, 0, 100);
        Check.forgeTag(store, 1, 1, 50);
        Check.forgeTag(store, 2, 1, 2075);
        store.mount();
        Check.same("place(1)", store.place(1), 1);
        Check.same("states", Check.states(store), "1120|0000|0000|0000");
        Check.same("serial()", store.serial(), 2076);
    }

    private static void mountLeavesFlashAndWear() {
        FlashStore store = new FlashStore();
        store.write(0, 1);
        store.clean();
        store.spoil(1, 0, 2, 3);
        int word = store.flash(1, 0, 2);
        store.mount();
        Check.same("wear", Check.wears(store), "1 0 0 0");
        Check.same("flash(1, 0, 2)", store.flash(1, 0, 2), word);
    }
}
