/** What all promises share: an object is used for at most 512 calls, and the last of them is as good as the first. */
public final class CallsTest {
    private static final Check CHECK = new Check("Promises 1 to 13 (the 512 calls of an object)");

    public static void main(String[] args) {
        lookingOn();
        definingOn();
        newCellsOn();
        refusingOn();
        CHECK.exit();
    }

    private static void lookingOn() {
        CHECK.test("511 calls that look, and one more");
        CHECK.defined("a=1");
        CHECK.buildsAll(1);
        CHECK.tape("a");
        while (CHECK.calls() < 512) {
            CHECK.answers("value()", 1, CellWorks::value);
        }
    }

    private static void definingOn() {
        CHECK.test("a cell that is defined anew and built as often as 512 calls allow");
        CHECK.tape("b=a");
        CHECK.answers("define()", -1, CellWorks::define);
        int built = 0;
        while (CHECK.calls() + 5 < 512) {
            // "a=0" to "a=9", in twenty bytes with blanks
            CHECK.feeds(20, 0x613d3020 + (built / 2 % 10 << 8), 0x20202020, 0x20202020, 0x20202020, 0x20202020);
            CHECK.answers("define()", -1, CellWorks::define);
            CHECK.answers("buildAll()", 2, CellWorks::buildAll);
            built += 2;
        }
        CHECK.counts(3, built);
        CHECK.counts(4, 2);
    }

    private static void newCellsOn() {
        CHECK.test("new cells as often as 512 calls allow");
        while (CHECK.calls() + 5 < 512) {
            CHECK.feeds(20, 0x613d782b, 0x31202020, 0x20202020, 0x20202020, 0x20202020);
            CHECK.answers("define()", -1, CellWorks::define);
            CHECK.feeds(20, 0x61202020, 0x20202020, 0x20202020, 0x20202020, 0x20202020);
            CHECK.answers("remove()", 1, x -> x.remove() ? 1 : 0);
        }
        CHECK.counts(0, 0);
    }

    private static void refusingOn() {
        CHECK.test("refused definitions as often as 512 calls allow");
        while (CHECK.calls() + 3 < 512) {
            CHECK.feeds(20, 0x613d2828, 0x28282828, 0x28282828, 0x28282828, 0x28282828);
            CHECK.answers("define()", 20, CellWorks::define);
            CHECK.answers("fault()", 2, CellWorks::fault);
        }
        CHECK.counts(0, 0);
    }
}
