import java.util.ArrayList;
import java.util.HashMap;
import java.util.List;
import java.util.Map;
import java.util.Random;

/** Random runs, each call compared with a slow model that follows the document's words (promises 1 to 15). */
public final class ModelTest {
    private static final int RUNS = 3000;
    /** Two calls a step and the look at everything that ends a run: an object stays below its 512 calls. */
    private static final int MOST_STEPS = 190;

    public static void main(String[] args) {
        for (int run = 0; run < RUNS; run++) {
            new Run(run).go();
        }
        Check.close();
    }

    /** One page of the flash, with what the store knows of it. */
    private static final class Page {
        final int block;
        final int[] words = new int[5];
        int logical = -1;
        int serial = 0;
        boolean free = true;

        Page(int block) {
            this.block = block;
            wipe();
        }

        void wipe() {
            java.util.Arrays.fill(words, Check.ALL_ONES);
            logical = -1;
            free = true;
        }

        int state() {
            return free ? 0 : logical >= 0 ? 1 : 2;
        }
    }

    /** The document's words, with no thought of speed. */
    private static final class Model {
        private static final Map<Integer, Integer> ERRORS_OF = errorsByRemainder();

        final List<Page> pages = new ArrayList<>();
        final int[] wear = new int[4];
        int next = 0;
        int mended = 0;

        Model() {
            for (int at = 0; at < 16; at++) {
                pages.add(new Page(at / 4));
            }
        }

        private static int modG(int word) {
            int rest = word;
            for (int top = 30; top >= 15; top--) {
                if ((rest >> top & 1) == 1) {
                    for (int exponent : new int[] {15, 11, 10, 9, 8, 7, 5, 3, 2, 1, 0}) {
                        rest ^= 1 << (top - 15 + exponent);
                    }
                }
            }
            return rest;
        }

        private static Map<Integer, Integer> errorsByRemainder() {
            Map<Integer, Integer> errorsOf = new HashMap<>();
            errorsOf.put(0, 0);
            for (int a = 0; a < 31; a++) {
                for (int b = 0; b <= a; b++) {
                    for (int c = 0; c <= b; c++) {
                        int errors = 1 << a | 1 << b | 1 << c;
                        errorsOf.put(modG(errors), errors);
                    }
                }
            }
            return errorsOf;
        }

        static int encode(int data) {
            return data << 15 | modG(data << 15);
        }

        /** Data, or -1 when lost. */
        static int dataOf(int word) {
            Integer errors = ERRORS_OF.get(modG(word));
            return errors == null ? -1 : (word ^ errors) >> 15;
        }

        int decode(int word) {
            int data = dataOf(word);
            if (data < 0) {
                throw new ArithmeticException();
            }
            mended = Integer.bitCount(ERRORS_OF.get(modG(word)));
            return data;
        }

        Page pageOf(int logical) {
            for (Page page : pages) {
                if (page.logical == logical) {
                    return page;
                }
            }
            return null;
        }

        int place(int logical) {
            Page page = pageOf(logical);
            return page == null ? -1 : pages.indexOf(page);
        }

        long read(int logical) {
            Page page = pageOf(logical);
            if (page == null) {
                throw new IllegalStateException();
            }
            return contentOf(page);
        }

        private static long contentOf(Page page) {
            long content = 0;
            for (int word = 3; word >= 0; word--) {
                int data = dataOf(page.words[word]);
                if (data < 0) {
                    throw new ArithmeticException();
                }
                content = content * 65536 + data;
            }
            return content;
        }

        boolean trim(int logical) {
            Page page = pageOf(logical);
            if (page != null) {
                page.logical = -1;
            }
            return page != null;
        }

        private int count(int block, int state) {
            int count = 0;
            for (Page page : pages) {
                count += page.block == block && page.state() == state ? 1 : 0;
            }
            return count;
        }

        private Page placeToPut(int except) {
            for (boolean begun : new boolean[] {true, false}) {
                for (Page page : pages) {
                    boolean isBegun = count(page.block, 1) + count(page.block, 2) > 0;
                    if (page.free && page.block != except && isBegun == begun) {
                        return page;
                    }
                }
            }
            return null;
        }

        private void put(int logical, long content, int except) {
            Page place = placeToPut(except);
            trim(logical);
            for (int word = 0; word < 4; word++) {
                place.words[word] &= encode((int) (content >> 16 * word & 65535));
            }
            place.words[4] &= encode(logical * 4096 + next);
            place.free = false;
            place.logical = logical;
            place.serial = next;
            next = next == 4094 ? 0 : next + 1;
        }

        private int freeBlocksAfterPut() {
            Page place = placeToPut(-1);
            if (place == null) {
                return 0;
            }
            place.free = false;
            int blocks = 0;
            for (int block = 0; block < 4; block++) {
                blocks += count(block, 0) == 4 ? 1 : 0;
            }
            place.free = true;
            return blocks;
        }

        void write(int logical, long content) {
            while (freeBlocksAfterPut() == 0) {
                clean();
            }
            put(logical, content, -1);
        }

        int clean() {
            List<Integer> blocks = new ArrayList<>(List.of(0, 1, 2, 3));
            blocks.removeIf(b -> count(b, 0) == 4 || count(b, 1) == 4 || count(b, 1) > freeBeside(b));
            if (blocks.isEmpty()) {
                throw new IllegalStateException();
            }
            // The sort is stable, so of equals the lowest stays first.
            blocks.sort((a, b) -> Integer.compare(count(a, 1) * 10000 + wear[a], count(b, 1) * 10000 + wear[b]));
            int block = blocks.get(0);
            for (Page page : pages.subList(4 * block, 4 * block + 4)) {
                if (page.state() == 1) {
                    move(page);
                }
            }
            pages.subList(4 * block, 4 * block + 4).forEach(Page::wipe);
            wear[block]++;
            return block;
        }

        private int freeBeside(int block) {
            return count(0, 0) + count(1, 0) + count(2, 0) + count(3, 0) - count(block, 0);
        }

        private void move(Page page) {
            try {
                put(page.logical, contentOf(page), page.block);
            } catch (ArithmeticException unreadable) {
                page.logical = -1;
            }
        }

        private static boolean newer(int serial, int other) {
            for (int plus = 1; plus <= 2000; plus++) {
                if ((other + plus) % 4095 == serial % 4095) {
                    return true;
                }
            }
            return false;
        }

        int mount() {
            int kept = -1;
            for (Page page : pages) {
                page.logical = -1;
            }
            for (Page page : pages) {
                int tag = dataOf(page.words[4]);
                page.free = tag == 65535;
                if (tag < 0 || tag >= 8 * 4096) {
                    continue;
                }
                page.serial = tag % 4096;
                Page before = pageOf(tag / 4096);
                if (before == null || newer(page.serial, before.serial)) {
                    trim(tag / 4096);
                    page.logical = tag / 4096;
                }
                kept = kept < 0 || newer(page.serial, kept) ? page.serial : kept;
            }
            next = kept < 0 ? 0 : (kept + 1) % 4095;
            int held = 0;
            for (int logical = 0; logical < 8; logical++) {
                held += pageOf(logical) != null ? 1 : 0;
            }
            return held;
        }
    }

    /** An answer as a number, or the name of what was thrown. */
    private interface Answer {
        long get();
    }

    private static final class Run {
        private final int number;
        private final Random random;
        private final FlashStore store = new FlashStore();
        private final Model model = new Model();
        private final int mountsInHundred;
        private final int spoilsInHundred;

        Run(int number) {
            this.number = number;
            random = new Random(number);
            mountsInHundred = number % 3 * 6;
            spoilsInHundred = number % 4 * 12;
        }

        void go() {
            int steps = 1 + random.nextInt(MOST_STEPS);
            for (int step = 0; step < steps; step++) {
                act(step);
                lookSomewhere(step);
            }
            lookEverywhere(steps);
        }

        private static String told(Answer answer) {
            try {
                return Long.toString(answer.get());
            } catch (RuntimeException thrown) {
                return thrown.getClass().getSimpleName();
            }
        }

        private void compare(int step, String call, Answer got, Answer due) {
            Check.same("run " + number + " step " + step + " " + call, told(got), told(due));
        }

        private void act(int step) {
            int chance = random.nextInt(100);
            if (chance < mountsInHundred) {
                compare(step, "mount", store::mount, model::mount);
            } else if (chance < mountsInHundred + spoilsInHundred) {
                spoilSomewhere();
            } else if (chance > 95) {
                compare(step, "clean", store::clean, model::clean);
            } else if (chance > 90) {
                int page = random.nextInt(8);
                compare(step, "trim " + page, () -> store.trim(page) ? 1 : 0, () -> model.trim(page) ? 1 : 0);
            } else if (chance > 85) {
                int word = random.nextBoolean() ? random.nextInt() >>> 1 : Model.encode(random.nextInt(65536)) ^ bits();
                compare(step, "decode " + word, () -> store.decode(word), () -> model.decode(word));
            } else {
                int page = random.nextInt(number % 8 + 1);
                long content = random.nextLong() << random.nextInt(64);
                compare(step, "write " + page,
                    () -> written(store, page, content), () -> written(model, page, content));
            }
        }

        private static long written(FlashStore store, int page, long content) {
            store.write(page, content);
            return 0;
        }

        private static long written(Model model, int page, long content) {
            model.write(page, content);
            return 0;
        }

        /** Up to five bits, mostly few. */
        private int bits() {
            int bits = 0;
            int count = random.nextInt(6);
            for (int bit = 0; bit < count; bit++) {
                bits |= 1 << random.nextInt(31);
            }
            return bits;
        }

        private void spoilSomewhere() {
            int place = random.nextInt(16);
            int word = random.nextInt(3) == 0 ? 4 : random.nextInt(4);
            int bits = bits();
            if (word == 4 && random.nextBoolean()) {
                bits = model.pages.get(place).words[4] ^ Model.encode(random.nextInt(9) << 12 | someSerial());
            }
            store.spoil(place / 4, place % 4, word, bits);
            model.pages.get(place).words[word] ^= bits;
        }

        private int someSerial() {
            return random.nextBoolean() ? random.nextInt(4095) : (random.nextInt(40) + 4075) % 4095;
        }

        private void lookSomewhere(int step) {
            int page = random.nextInt(8);
            int place = random.nextInt(16);
            switch (random.nextInt(4)) {
                case 0 -> compare(step, "read " + page, () -> store.read(page), () -> model.read(page));
                case 1 -> compare(step, "place " + page, () -> store.place(page), () -> model.place(page));
                case 2 -> compare(step, "serial", store::serial, () -> model.next);
                default -> compare(step, "state " + place,
                    () -> store.state(place / 4, place % 4), () -> model.pages.get(place).state());
            }
        }

        private void lookEverywhere(int step) {
            for (int at = 0; at < 80; at++) {
                int place = at / 5;
                int word = at % 5;
                compare(step, "flash " + place + " " + word,
                    () -> store.flash(place / 4, place % 4, word), () -> model.pages.get(place).words[word]);
            }
            StringBuilder states = new StringBuilder();
            for (Page page : model.pages) {
                boolean isFirst = states.length() > 0 && model.pages.indexOf(page) % 4 == 0;
                states.append(isFirst ? "|" : "").append(page.state());
            }
            Check.same("run " + number + " states", Check.states(store), states.toString());
            for (int index = 0; index < 8; index++) {
                int page = index;
                compare(step, "place " + page, () -> store.place(page), () -> model.place(page));
            }
            for (int index = 0; index < 4; index++) {
                int block = index;
                compare(step, "wear " + block, () -> store.wear(block), () -> model.wear[block]);
            }
            compare(step, "serial", store::serial, () -> model.next);
            compare(step, "mended", store::mended, () -> model.mended);
        }
    }
}
