import java.util.NoSuchElementException;

/** Promise 1: a new object. */
public final class Promise01Test {
    private static final Check CHECK = new Check("Promise 1 (a new object)");

    public static void main(String[] args) {
        none();
        emptyTape();
        noCells();
        nothingWorkedOut();
        eachObjectAlone();
        CHECK.exit();
    }

    private static void none() {
        CHECK.test("NONE is -1");
        CHECK.same("NONE", CellWorks.NONE, -1);
    }

    private static void emptyTape() {
        CHECK.test("an empty tape has no bytes");
        CHECK.counts(2, 0);
        CHECK.ends(0);
        CHECK.refusesEnd(1);
        CHECK.feedsOnly(20, ' ');
        CHECK.test("an empty tape is no definition");
        CHECK.answers("define()", 0, CellWorks::define);
        CHECK.answers("fault()", 2, CellWorks::fault);
        CHECK.test("an empty tape is no NAME");
        Class<NoSuchElementException> due = NoSuchElementException.class;
        CHECK.refuses("remove()", due, x -> x.remove() ? 1 : 0);
        CHECK.refuses("build()", due, CellWorks::build);
        CHECK.refuses("value()", due, CellWorks::value);
        CHECK.refuses("state()", due, CellWorks::state);
        CHECK.refuses("readers(false)", due, x -> x.readers(false));
        CHECK.refuses("readers(true)", due, x -> x.readers(true));
    }

    private static void noCells() {
        CHECK.test("no cells");
        CHECK.counts(0, 0);
        CHECK.counts(1, 0);
        CHECK.has("a", -1, 0);
        CHECK.isRead("a", 0, 0);
        CHECK.removes("a", false);
        CHECK.builds("a", -1);
        CHECK.buildsAll(0);
    }

    private static void nothingWorkedOut() {
        CHECK.test("there was no fault, and nothing was worked out");
        CHECK.answers("fault()", 0, CellWorks::fault);
        CHECK.counts(3, 0);
        CHECK.counts(4, 0);
        CHECK.refuses("built(0, 0)", IndexOutOfBoundsException.class, x -> x.built(0, 0));
    }

    private static void eachObjectAlone() {
        CHECK.test("an object knows nothing of the others");
        CHECK.defined("a=1");
        CHECK.buildsAll(1);
        CHECK.faulty("a=", 2, 2);
        CHECK.tape("abc");
        CellWorks other = new CellWorks();
        for (int what = 0; what <= 4; what++) {
            CHECK.same("count(" + what + ") of another object", other.count(what), 0);
        }
        CHECK.same("fault() of another object", other.fault(), 0);
        CHECK.counts(2, 3);
        CHECK.has("a", 1, 1);
    }
}
