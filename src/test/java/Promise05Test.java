import java.util.NoSuchElementException;

/** Promise 5: fault. */
public final class Promise05Test {
    private static final Check CHECK = new Check("Promise 5 (fault)");

    public static void main(String[] args) {
        noneYet();
        eachCode();
        latest();
        keptByOtherCalls();
        keptByRefusedCalls();
        CHECK.exit();
    }

    private static void hasFault(int due) {
        CHECK.answers("fault()", due, CellWorks::fault);
    }

    private static void defines(String text, int due) {
        CHECK.tape(text);
        CHECK.answers("define() of '" + text + "'", due, CellWorks::define);
    }

    private static void noneYet() {
        CHECK.test("0 without a define()");
        hasFault(0);
        CHECK.tape("$");
        CHECK.buildsAll(0);
        hasFault(0);
    }

    private static void eachCode() {
        CHECK.test("each code");
        CHECK.fill(64, "7");
        hasFault(0);
        defines("a=$", 2);
        hasFault(1);
        defines("a=", 2);
        hasFault(2);
        defines("a=" + "-".repeat(21) + "1", 22);
        hasFault(3);
        defines("a=1", 0);
        hasFault(4);
        defines("n1=n1", 3);
        hasFault(5);
        hasFault(5);
        defines("n1=1", -1);
        hasFault(0);
    }

    private static void latest() {
        CHECK.test("of the latest define(), whatever was before");
        defines("a=$", 2);
        defines("a=1", -1);
        hasFault(0);
        defines("a=a", 2);
        defines("", 0);
        hasFault(2);
        defines("1234567890", 0);
        hasFault(1);
        CHECK.answers("define()", 0, CellWorks::define);
        hasFault(2);
    }

    private static void keptByOtherCalls() {
        CHECK.test("no other call changes it");
        CHECK.defined("a=1");
        CHECK.defined("b=1");
        defines("a=a", 2);
        CHECK.feedsOnly(20, '$');
        hasFault(5);
        CHECK.ends(0);
        hasFault(5);
        CHECK.removes("b", true);
        hasFault(5);
        CHECK.builds("a", 1);
        hasFault(5);
        CHECK.buildsAll(0);
        hasFault(5);
        CHECK.has("a", 1, 1);
        hasFault(5);
        CHECK.isRead("a", 0, 0);
        hasFault(5);
        CHECK.counts(4, 0);
        CHECK.defined("b=1");
        defines("a=a", 2);
        CHECK.buildsAll(1);
        CHECK.worked("b");
        hasFault(5);
    }

    private static void keptByRefusedCalls() {
        CHECK.test("no call that throws changes it");
        defines("a=a", 2);
        CHECK.tape("a=$");
        Class<NoSuchElementException> due = NoSuchElementException.class;
        CHECK.refuses("remove()", due, x -> x.remove() ? 1 : 0);
        CHECK.refuses("build()", due, CellWorks::build);
        CHECK.refuses("value()", due, CellWorks::value);
        CHECK.refuses("state()", due, CellWorks::state);
        CHECK.refuses("readers(true)", due, x -> x.readers(true));
        CHECK.refuses("built(0, 0)", IndexOutOfBoundsException.class, x -> x.built(0, 0));
        CHECK.refuses("count(5)", IllegalArgumentException.class, x -> x.count(5));
        CHECK.refusesEnd(4);
        hasFault(5);
        CHECK.ends(0);
        for (int n = 1; n <= 100; n++) {
            CHECK.feedsOnly(20 * n, ' ');
        }
        CHECK.refuses("feed(0, 0, 0, 0, 0)", UnsupportedOperationException.class, x -> x.feed(0, 0, 0, 0, 0));
        hasFault(5);
    }
}
