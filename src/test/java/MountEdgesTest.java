/**
 * The boundary cases of promises 10 and 15: tags, newer serials, and the next serial. Each method tests the sentence
 * of the document that it quotes.
 */
public final class MountEdgesTest {
    public static void main(String[] args) {
        nothingToFind();
        allToFind();
        theFreeTag();
        tagsBesideTheFreeOne();
        wrongBitsInAFreeTag();
        aUsedPageThatBecomesFree();
        aFreePageThatBecomesUsed();
        logicalNumbersAboveSeven();
        lostTags();
        wrongBitsInATag();
        unreadableContentIsFound();
        theSameSerialIsNotNewer();
        oneNewer();
        twoThousandNewer();
        twoThousandAndOneIsNotNewer();
        oneOlder();
        newerAcrossTheWrap();
        notNewerAcrossTheWrap();
        theNewestOfSeveral();
        inTheOrderOfPages();
        otherLogicalPagesDoNotCount();
        nextWhenThereIsNone();
        nextWhenAllAreSpoilt();
        nextBehindTheOnlyOne();
        nextWraps();
        nextKeepsTheFirst();
        nextTakesEachNewerOne();
        nextOfPagesThatAreOld();
        nextLooksPastFreeAndSpoiltPages();
        mountForgetsWhatWasErased();
        mountLeavesTheRest();
        mountTwice();
        Check.close();
    }

    /** A store with a page for each serial, all of one logical page, from place 0 on. */
    private static FlashStore ofOnePage(int... serials) {
        FlashStore store = new FlashStore();
        for (int place = 0; place < serials.length; place++) {
            Check.forgeTag(store, place, 3, serials[place]);
        }
        Check.same("mount() of one logical page", store.mount(), 1);
        return store;
    }

    /** Which of these pages of one logical page is taken, and the serial behind the one kept. */
    private static void taken(int place, int next, int... serials) {
        FlashStore store = ofOnePage(serials);
        String what = java.util.Arrays.toString(serials);
        Check.same("place(3) of " + what, store.place(3), place);
        Check.same("serial() of " + what, store.serial(), next);
        for (int at = 0; at < serials.length; at++) {
            Check.same("state of " + at + " of " + what, store.state(at / 4, at % 4), at == place ? 1 : 2);
        }
    }

    /** The next serial of pages of different logical pages. */
    private static int nextOf(int... serials) {
        FlashStore store = new FlashStore();
        for (int place = 0; place < serials.length; place++) {
            Check.forgeTag(store, place, place, serials[place]);
        }
        Check.same("mount() of different pages", store.mount(), serials.length);
        return store.serial();
    }

    /** "how many logical pages have something": none. */
    private static void nothingToFind() {
        Check.same("mount() of a new store", new FlashStore().mount(), 0);
        FlashStore spoilt = Check.storeOf("2222|2222|2222|2222");
        Check.same("mount() of spoilt pages", spoilt.mount(), 0);
        FlashStore store = new FlashStore();
        store.write(2, 2);
        Check.loseTag(store, 0);
        Check.same("mount() of a page that was used", store.mount(), 0);
        Check.same("place(2)", store.place(2), -1);
    }

    /** "how many logical pages have something": one, and all eight. */
    private static void allToFind() {
        Check.same("mount() of the last page", Check.storeOf("0000|0000|0000|0001").mount(), 1);
        FlashStore store = Check.storeOf("1111|0000|0000|1111");
        Check.same("mount() of eight", store.mount(), 8);
        Check.same("places", Check.places(store), "0 1 2 3 12 13 14 15");
    }

    /** "The tag 65535 is that of a FREE page" */
    private static void theFreeTag() {
        FlashStore store = new FlashStore();
        store.spoil(1, 1, 0, Check.ALL_ONES);
        store.spoil(1, 1, 3, 15);
        Check.same("mount()", store.mount(), 0);
        Check.same("state(1, 1) of an erased tag", store.state(1, 1), 0);
    }

    /** "The tag 65535": no other one, though its logical number or its serial is the same. */
    private static void tagsBesideTheFreeOne() {
        for (int tag : new int[] {65534, 15 << 12, 14 << 12 | 4095, 8 << 12 | 4095}) {
            FlashStore store = new FlashStore();
            store.spoil(2, 0, 4, Check.ALL_ONES ^ store.encode(tag));
            Check.same("mount() of tag " + tag, store.mount(), 0);
            Check.same("state of tag " + tag, store.state(2, 0), 2);
            Check.same("serial() of tag " + tag, store.serial(), 0);
        }
    }

    /** "the data of its word 4, mended": three wrong bits of a free tag, and four. */
    private static void wrongBitsInAFreeTag() {
        FlashStore store = new FlashStore();
        store.spoil(0, 3, 4, 1 << 30 | 1 << 15 | 1);
        store.mount();
        Check.same("three bits: free", store.state(0, 3), 0);
        store.spoil(0, 3, 4, 1 << 30 | 1 << 15 | 14);
        store.mount();
        Check.same("four bits: old", store.state(0, 3), 2);
        store.spoil(0, 3, 4, 15);
        store.mount();
        Check.same("no bit: free again", store.state(0, 3), 0);
    }

    /** "all that the store knows is looked up anew": a used page with the tag of a free one. */
    private static void aUsedPageThatBecomesFree() {
        FlashStore store = new FlashStore();
        store.write(5, 5);
        store.spoil(0, 0, 4, Check.ALL_ONES ^ store.flash(0, 0, 4));
        Check.same("state(0, 0) before", store.state(0, 0), 1);
        Check.same("mount()", store.mount(), 0);
        Check.same("state(0, 0)", store.state(0, 0), 0);
        Check.same("the words stay", store.flash(0, 0, 0), store.encode(5));
        store.write(6, 0);
        Check.same("it is written again", store.place(6), 0);
    }

    /** "all that the store knows is looked up anew": a free page with the tag of a used one. */
    private static void aFreePageThatBecomesUsed() {
        FlashStore store = new FlashStore();
        Check.forgeTag(store, 13, 6, 77);
        Check.same("place(6) before", store.place(6), -1);
        Check.same("state(3, 1) before", store.state(3, 1), 0);
        Check.same("mount()", store.mount(), 1);
        Check.same("place(6)", store.place(6), 13);
        Check.same("read(6)", store.read(6), -1);
    }

    /** "whose logical number is above 7 (and that is not free), is SPOILT": "spoilt (it is old)". */
    private static void logicalNumbersAboveSeven() {
        for (int logical = 0; logical < 16; logical++) {
            FlashStore store = new FlashStore();
            Check.forgeTag(store, 9, logical, 9);
            Check.same("mount() of logical " + logical, store.mount(), logical <= 7 ? 1 : 0);
            Check.same("state of logical " + logical, store.state(2, 1), logical <= 7 ? 1 : 2);
            Check.same("serial() of logical " + logical, store.serial(), logical <= 7 ? 10 : 0);
        }
    }

    /** "a page whose word 4 is lost .. is SPOILT": "spoilt (it is old)". */
    private static void lostTags() {
        FlashStore store = new FlashStore();
        store.write(4, 40);
        store.write(4, 41);
        store.spoil(0, 1, 4, 15);
        Check.same("mount()", store.mount(), 1);
        Check.same("states", Check.states(store), "1200|0000|0000|0000");
        Check.same("read(4) is the one before", store.read(4), 40);
    }

    /** "A page's TAG is the data of its word 4, mended" */
    private static void wrongBitsInATag() {
        FlashStore store = new FlashStore();
        store.write(4, 40);
        store.write(4, 41);
        store.spoil(0, 1, 4, 7 << 28);
        int word = store.flash(0, 1, 4);
        Check.same("mount()", store.mount(), 1);
        Check.same("read(4)", store.read(4), 41);
        Check.same("serial()", store.serial(), 2);
        Check.same("the word stays", store.flash(0, 1, 4), word);
    }

    /** "for each page, in order, its tag": its other words are not looked at. */
    private static void unreadableContentIsFound() {
        FlashStore store = new FlashStore();
        store.write(4, 40);
        store.write(4, 41);
        Check.loseContent(store, 1);
        Check.same("mount()", store.mount(), 1);
        Check.same("place(4)", store.place(4), 1);
        Check.refuses("read(4)", Check.ARITHMETIC, () -> store.read(4));
    }

    /** "plus 1 to 2000": not 0; "otherwise it is old". */
    private static void theSameSerialIsNotNewer() {
        taken(0, 701, 700, 700);
        taken(0, 1, 0, 0);
        taken(0, 0, 4094, 4094, 4094);
    }

    /** "plus 1 to 2000": 1. */
    private static void oneNewer() {
        taken(1, 702, 700, 701);
        taken(1, 2, 0, 1);
        taken(1, 0, 4093, 4094);
    }

    /** "plus 1 to 2000": 2000. */
    private static void twoThousandNewer() {
        taken(1, 2701, 700, 2700);
        taken(1, 2001, 0, 2000);
        taken(1, 0, 2094, 4094);
    }

    /** "plus 1 to 2000": not 2001. */
    private static void twoThousandAndOneIsNotNewer() {
        taken(0, 701, 700, 2701);
        taken(0, 1, 0, 2001);
        taken(0, 2094, 2093, 4094);
    }

    /** "one serial is NEWER than another if": one less is not. */
    private static void oneOlder() {
        taken(0, 701, 700, 699);
        taken(0, 2, 1, 0);
        taken(0, 0, 4094, 4093);
    }

    /** "plus 1 to 2000, modulo 4095": 1 and 2000 across the wrap. */
    private static void newerAcrossTheWrap() {
        taken(1, 1, 4094, 0);
        taken(1, 2000, 4094, 1999);
        taken(1, 906, 3000, 905);
        taken(1, 1, 2095, 0);
    }

    /** "plus 1 to 2000, modulo 4095": 2001 and 4094 across the wrap. */
    private static void notNewerAcrossTheWrap() {
        taken(0, 0, 4094, 2000);
        taken(0, 3001, 3000, 906);
        taken(0, 2095, 2094, 0);
        taken(0, 1, 0, 4094);
    }

    /** "of several the one with the newest serial": first, in the middle, last. */
    private static void theNewestOfSeveral() {
        taken(0, 53, 52, 51, 50, 49);
        taken(1, 53, 50, 52, 51, 49);
        taken(4, 53, 50, 49, 51, 48, 52);
        taken(2, 3, 4093, 4094, 2, 0, 1);
    }

    /** "a page is taken in place of the one before it when its serial is newer than that one's" */
    private static void inTheOrderOfPages() {
        taken(2, 4001, 0, 2000, 4000);
        taken(2, 2001, 0, 4000, 2000);
        taken(2, 4001, 2000, 0, 4000);
        taken(3, 1906, 0, 2000, 4000, 1905);
    }

    /** "of several": of the same logical page. */
    private static void otherLogicalPagesDoNotCount() {
        FlashStore store = new FlashStore();
        Check.forgeTag(store, 0, 3, 10);
        Check.forgeTag(store, 1, 4, 12);
        Check.forgeTag(store, 2, 3, 11);
        Check.forgeTag(store, 3, 4, 9);
        Check.same("mount()", store.mount(), 2);
        Check.same("states", Check.states(store), "2112|0000|0000|0000");
        Check.same("places", Check.places(store), "-1 -1 -1 2 1 -1 -1 -1");
    }

    /** "(0 when there is none)": all pages are free. */
    private static void nextWhenThereIsNone() {
        FlashStore store = new FlashStore();
        store.write(0, 1);
        Check.loseContent(store, 0);
        store.clean();
        Check.same("serial() before", store.serial(), 1);
        store.mount();
        Check.same("serial()", store.serial(), 0);
    }

    /** "(0 when there is none)": no page that is neither free nor spoilt. */
    private static void nextWhenAllAreSpoilt() {
        FlashStore store = new FlashStore();
        store.write(0, 1);
        store.write(1, 2);
        Check.loseTag(store, 0);
        store.spoil(0, 1, 4, store.flash(0, 1, 4) ^ store.encode(8 << 12 | 1));
        store.mount();
        Check.same("states", Check.states(store), "2200|0000|0000|0000");
        Check.same("serial()", store.serial(), 0);
    }

    /** "The next serial is the one behind the serial of the used page that was taken last" */
    private static void nextBehindTheOnlyOne() {
        Check.same("serial() behind 0", nextOf(0), 1);
        Check.same("serial() behind 2047", nextOf(2047), 2048);
        Check.same("serial() behind 4093", nextOf(4093), 4094);
    }

    /** "behind 4094 comes 0 again": at a mount. */
    private static void nextWraps() {
        Check.same("serial() behind 4094", nextOf(4094), 0);
        Check.same("serial() behind 4093 and 4094", nextOf(4093, 4094), 0);
        Check.same("serial() behind 4094 and 0", nextOf(4094, 0), 1);
        Check.same("serial() behind 0 and 4094", nextOf(0, 4094), 1);
    }

    /** "the first one's serial is kept" */
    private static void nextKeepsTheFirst() {
        Check.same("serial() of older ones", nextOf(500, 499, 0, 4094), 501);
        Check.same("serial() of 2001 more", nextOf(500, 2501), 501);
        Check.same("serial() of the same", nextOf(500, 500), 501);
    }

    /** "then each that is newer than the one kept" */
    private static void nextTakesEachNewerOne() {
        Check.same("serial() of 1 more", nextOf(500, 501), 502);
        Check.same("serial() of 2000 more", nextOf(500, 2500), 2501);
        Check.same("serial() of steps of 2000", nextOf(1000, 3000, 905, 2905), 2906);
        Check.same("serial() of one in the middle", nextOf(500, 700, 600), 701);
    }

    /** "of each page that is no free or spoilt one": also one that is old since an older one was taken. */
    private static void nextOfPagesThatAreOld() {
        FlashStore store = new FlashStore();
        Check.forgeTag(store, 0, 0, 100);
        Check.forgeTag(store, 1, 1, 50);
        Check.forgeTag(store, 2, 1, 2075);
        Check.same("mount()", store.mount(), 2);
        Check.same("states", Check.states(store), "1120|0000|0000|0000");
        Check.same("serial()", store.serial(), 2076);
    }

    /** "of each page that is no free or spoilt one, in order" */
    private static void nextLooksPastFreeAndSpoiltPages() {
        FlashStore store = new FlashStore();
        Check.forgeTag(store, 0, 8, 3000);
        Check.loseTag(store, 1);
        Check.forgeTag(store, 6, 2, 20);
        Check.forgeTag(store, 10, 14, 25);
        Check.forgeTag(store, 15, 2, 22);
        Check.same("mount()", store.mount(), 1);
        Check.same("states", Check.states(store), "2200|0020|0020|0001");
        Check.same("serial()", store.serial(), 23);
    }

    /** "all that the store knows is looked up anew": the serials of an erased block are not known any more. */
    private static void mountForgetsWhatWasErased() {
        FlashStore store = new FlashStore();
        for (int write = 0; write < 5; write++) {
            store.write(write, write);
        }
        Check.loseContent(store, 4);
        Check.same("clean()", store.clean(), 1);
        Check.same("serial() before", store.serial(), 5);
        Check.same("mount()", store.mount(), 4);
        Check.same("serial()", store.serial(), 4);
    }

    /** "all that the store knows": not the flash, its wear, or what decode() mended. */
    private static void mountLeavesTheRest() {
        FlashStore store = new FlashStore();
        store.write(0, 1);
        store.clean();
        store.spoil(1, 0, 2, 3);
        store.spoil(1, 0, 4, 3);
        store.decode(1);
        String before = Check.picture(store);
        Check.same("mount()", store.mount(), 1);
        Check.same("all after it", Check.picture(store), before);
    }

    /** "Mounts the store": once more finds the same. */
    private static void mountTwice() {
        FlashStore store = new FlashStore();
        for (int write = 0; write < 20; write++) {
            store.write(write % 5, write);
        }
        Check.same("mount()", store.mount(), 5);
        String first = Check.picture(store);
        Check.same("mount() again", store.mount(), 5);
        Check.same("all after it", Check.picture(store), first);
    }
}
