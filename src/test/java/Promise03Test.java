/** Promise 3: end. */
public final class Promise03Test {
    private static final Check CHECK = new Check("Promise 3 (end)");

    public static void main(String[] args) {
        firstBytes();
        none();
        all();
        belowZero();
        notSoMany();
        emptyTape();
        fullTape();
        cutBytesAreGone();
        CHECK.exit();
    }

    private static void firstBytes() {
        CHECK.test("the tape keeps its first n bytes");
        CHECK.tape("a=12345");
        CHECK.ends(4);
        CHECK.counts(2, 4);
        CHECK.answers("define()", -1, CellWorks::define);
        CHECK.builds("a", 1);
        CHECK.has("a", 1, 12);
    }

    private static void none() {
        CHECK.test("n may be 0");
        CHECK.tape("a=12345");
        CHECK.ends(0);
        CHECK.counts(2, 0);
        CHECK.answers("define()", 0, CellWorks::define);
        CHECK.answers("fault()", 2, CellWorks::fault);
    }

    private static void all() {
        CHECK.test("n may be as many as the tape has");
        CHECK.tape("a=12345");
        CHECK.ends(7);
        CHECK.counts(2, 7);
        CHECK.answers("define()", -1, CellWorks::define);
        CHECK.builds("a", 1);
        CHECK.has("a", 1, 12345);
    }

    private static void belowZero() {
        CHECK.test("n is below 0");
        CHECK.tape("a=12345");
        CHECK.refusesEnd(-1);
        CHECK.refusesEnd(-7);
        CHECK.refusesEnd(Integer.MIN_VALUE);
        CHECK.counts(2, 7);
        CHECK.answers("define()", -1, CellWorks::define);
    }

    private static void notSoMany() {
        CHECK.test("the tape has not so many");
        CHECK.tape("a=12345");
        CHECK.refusesEnd(8);
        CHECK.refusesEnd(20);
        CHECK.refusesEnd(2000);
        CHECK.refusesEnd(Integer.MAX_VALUE);
        CHECK.counts(2, 7);
        CHECK.answers("define()", -1, CellWorks::define);
        CHECK.refusesEnd(7);
    }

    private static void emptyTape() {
        CHECK.test("an empty tape keeps none");
        CHECK.ends(0);
        CHECK.refusesEnd(1);
        CHECK.refusesEnd(-1);
        CHECK.counts(2, 0);
    }

    private static void fullTape() {
        CHECK.test("a full tape keeps all 2000");
        for (int n = 1; n <= 100; n++) {
            CHECK.feedsOnly(20 * n, ' ');
        }
        CHECK.refusesEnd(2001);
        CHECK.refusesEnd(2020);
        CHECK.ends(2000);
        CHECK.ends(1999);
        CHECK.refusesEnd(2000);
        CHECK.answers("define()", 1999, CellWorks::define);
    }

    private static void cutBytesAreGone() {
        CHECK.test("bytes that were cut off do not come back");
        CHECK.tape("a=12345");
        CHECK.ends(4);
        CHECK.refusesEnd(5);
        CHECK.feedsOnly(24, ' ');
        CHECK.answers("define()", -1, CellWorks::define);
        CHECK.builds("a", 1);
        CHECK.has("a", 1, 12);
    }
}
