/** What the tests share: comparing answers, naming thrown exceptions, and closing with an exit code. */
final class Check {
    static final int ALL_ONES = 0x7FFFFFFF;
    static final String ARGUMENT = "IllegalArgumentException";
    static final String STATE = "IllegalStateException";
    static final String ARITHMETIC = "ArithmeticException";

    private static int compared = 0;
    private static int wrong = 0;

    /** A call of the face whose exception is looked at. */
    interface Call {
        void run();
    }

    private Check() {
    }

    static void same(String what, long got, long due) {
        compared++;
        if (got != due) {
            wrong++;
            System.out.println(what + " answered " + got + ", due is " + due);
        }
    }

    static void same(String what, boolean got, boolean due) {
        same(what, got ? 1 : 0, due ? 1 : 0);
    }

    static void same(String what, String got, String due) {
        compared++;
        if (!got.equals(due)) {
            wrong++;
            System.out.println(what + " answered " + got + ", due is " + due);
        }
    }

    static void refuses(String what, String due, Call call) {
        same(what, thrownBy(call), due);
    }

    static void accepts(String what, Call call) {
        same(what, thrownBy(call), "nothing");
    }

    static String thrownBy(Call call) {
        try {
            call.run();
            return "nothing";
        } catch (RuntimeException thrown) {
            return thrown.getClass().getSimpleName();
        }
    }

    /** The bits that make an erased page's tag the given one. */
    static int tagBits(FlashStore store, int logical, int serial) {
        return ALL_ONES ^ store.encode(logical << 12 | serial);
    }

    /** Gives an erased page a tag from outside: only mount() finds it. */
    static void forgeTag(FlashStore store, int place, int logical, int serial) {
        store.spoil(place / 4, place % 4, 4, tagBits(store, logical, serial));
    }

    /** Makes an erased page's tag lost. */
    static void loseTag(FlashStore store, int place) {
        store.spoil(place / 4, place % 4, 4, 15);
    }

    /** The states of all places, a digit each, with a bar between blocks. */
    static String states(FlashStore store) {
        StringBuilder text = new StringBuilder();
        for (int place = 0; place < 16; place++) {
            if (place > 0 && place % 4 == 0) {
                text.append('|');
            }
            text.append(store.state(place / 4, place % 4));
        }
        return text.toString();
    }

    static String places(FlashStore store) {
        StringBuilder text = new StringBuilder();
        for (int page = 0; page < 8; page++) {
            text.append(page == 0 ? "" : " ").append(store.place(page));
        }
        return text.toString();
    }

    static String wears(FlashStore store) {
        StringBuilder text = new StringBuilder();
        for (int block = 0; block < 4; block++) {
            text.append(block == 0 ? "" : " ").append(store.wear(block));
        }
        return text.toString();
    }

    /**
     * A store with these states (as states() tells them), made from outside: the used pages bear the logical
     * numbers 0, 1, .. in order, each with its place as serial, and all their content is ones.
     */
    static FlashStore storeOf(String states) {
        FlashStore store = new FlashStore();
        String digits = states.replace("|", "");
        int logical = 0;
        for (int place = 0; place < 16; place++) {
            if (digits.charAt(place) == '1') {
                forgeTag(store, place, logical, place);
                logical++;
            } else if (digits.charAt(place) == '2') {
                loseTag(store, place);
            }
        }
        store.mount();
        same("the states made", states(store), states);
        return store;
    }

    /** Makes a page that has no wrong bits unreadable. */
    static void loseContent(FlashStore store, int place) {
        store.spoil(place / 4, place % 4, 0, 15);
    }

    /** All that can be seen of a store, to tell that a call changed nothing. It takes 110 calls. */
    static String picture(FlashStore store) {
        StringBuilder text = new StringBuilder();
        for (int at = 0; at < 80; at++) {
            text.append(store.flash(at / 20, at / 5 % 4, at % 5)).append(' ');
        }
        text.append(states(store)).append(" places ").append(places(store)).append(" wear ").append(wears(store));
        return text.append(" next ").append(store.serial()).append(" mended ").append(store.mended()).toString();
    }

    static void close() {
        System.out.println(compared + " answers compared, " + wrong + " wrong");
        if (wrong != 0) {
            System.exit(1);
        }
    }
}
