/** Promise 2: feed. */
public final class Promise02Test {
    private static final Check CHECK = new Check("Promise 2 (feed)");
    private static final int BLANKS = 0x20202020;

    public static void main(String[] args) {
        highestFirst();
        everyByteOfEveryNumber();
        allByteValues();
        howManyItHas();
        behindTheKeptOnes();
        fullTape();
        lastByteOfTheFullTape();
        oneByteTooMany();
        CHECK.exit();
    }

    private static void highestFirst() {
        CHECK.test("twenty bytes more, the highest of each number first");
        // "Abcdefg1=12345678*10"
        CHECK.feeds(20, 0x41626364, 0x65666731, 0x3d313233, 0x34353637, 0x382a3130);
        CHECK.answers("define()", -1, CellWorks::define);
        CHECK.buildsAll(1);
        CHECK.worked("Abcdefg1");
        CHECK.has("Abcdefg1", 1, 123456780);
    }

    private static void everyByteOfEveryNumber() {
        CHECK.test("each number's four bytes have their own places");
        for (int place = 0; place < 20; place++) {
            int[] words = {BLANKS, BLANKS, BLANKS, BLANKS, BLANKS};
            words[place / 4] += ('$' - ' ') << (24 - 8 * (place % 4));
            CHECK.feeds(20, words[0], words[1], words[2], words[3], words[4]);
            CHECK.answers("define() with $ at " + place, place, CellWorks::define);
        }
    }

    private static void allByteValues() {
        CHECK.test("bytes of 128 and more are bytes, and no letters");
        CHECK.feeds(20, 0x613d31e1, -1, Integer.MIN_VALUE, 0x80808080, -1);
        CHECK.answers("define()", 3, CellWorks::define);
        CHECK.answers("fault()", 1, CellWorks::fault);
        CHECK.feedsOnly(20, 255);
        CHECK.counts(2, 20);
    }

    private static void howManyItHas() {
        CHECK.test("how many bytes the tape has");
        for (int n = 1; n <= 5; n++) {
            CHECK.feedsOnly(20 * n, 'a');
            CHECK.counts(2, 20 * n);
        }
        CHECK.answers("define()", 0, CellWorks::define);
        CHECK.feedsOnly(20, 'a');
    }

    private static void behindTheKeptOnes() {
        CHECK.test("the twenty bytes come behind those that the tape has");
        CHECK.tape("a=12345");
        CHECK.ends(3);
        // "+6" and blanks
        CHECK.feeds(23, 0x2b362020, BLANKS, BLANKS, BLANKS, BLANKS);
        CHECK.answers("define()", -1, CellWorks::define);
        CHECK.buildsAll(1);
        CHECK.has("a", 1, 7);
    }

    private static void fullTape() {
        CHECK.test("2000 bytes are allowed, and not one feed more");
        // "a=" at the beginning, "7" at the end: a definition that every other byte would spoil
        CHECK.feeds(20, 0x613d2020, BLANKS, BLANKS, BLANKS, BLANKS);
        for (int n = 2; n < 100; n++) {
            CHECK.feedsOnly(20 * n, ' ');
        }
        CHECK.feeds(2000, BLANKS, BLANKS, BLANKS, BLANKS, 0x20202037);
        CHECK.counts(2, 2000);
        CHECK.refuses("feed(0, 0, 0, 0, 0)", UnsupportedOperationException.class, x -> x.feed(0, 0, 0, 0, 0));
        CHECK.refuses("feed(-1, -1, -1, -1, -1)", UnsupportedOperationException.class,
                x -> x.feed(-1, -1, -1, -1, -1));
        CHECK.counts(2, 2000);
        CHECK.answers("define()", -1, CellWorks::define);
        CHECK.builds("a", 1);
        CHECK.has("a", 1, 7);
    }

    private static void lastByteOfTheFullTape() {
        CHECK.test("the 2000th byte is read");
        for (int n = 1; n < 100; n++) {
            CHECK.feedsOnly(20 * n, ' ');
        }
        // "a=7" at the end
        CHECK.feeds(2000, BLANKS, BLANKS, BLANKS, BLANKS, 0x20613d37);
        CHECK.answers("define()", -1, CellWorks::define);
        CHECK.builds("a", 1);
        CHECK.has("a", 1, 7);
        CHECK.ends(0);
        for (int n = 1; n <= 100; n++) {
            CHECK.feeds(20 * n, BLANKS, BLANKS, BLANKS, BLANKS, n == 100 ? 0x20202024 : BLANKS);
        }
        CHECK.answers("define() with $ as the 2000th byte", 1999, CellWorks::define);
        for (int n = 1; n <= 100; n++) {
            CHECK.feedsOnly(20 * n, ' ');
        }
        CHECK.answers("define() of 2000 blanks", 2000, CellWorks::define);
    }

    private static void oneByteTooMany() {
        for (int length = 1981; length < 2000; length++) {
            CHECK.test("twenty bytes more than " + length + " are more than 2000");
            CHECK.feeds(20, 0x613d3720, BLANKS, BLANKS, BLANKS, BLANKS);
            for (int n = 2; n <= 100; n++) {
                CHECK.feedsOnly(20 * n, ' ');
            }
            CHECK.ends(length);
            CHECK.refuses("feed(0, 0, 0, 0, 0)", UnsupportedOperationException.class, x -> x.feed(0, 0, 0, 0, 0));
            CHECK.counts(2, length);
            CHECK.ends(1980);
            CHECK.feedsOnly(2000, ' ');
            CHECK.answers("define()", -1, CellWorks::define);
        }
    }
}
