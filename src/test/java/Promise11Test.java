/** Promise 11: readers. */
public final class Promise11Test {
    private static final Check CHECK = new Check("Promise 11 (readers)");

    public static void main(String[] args) {
        none();
        countedOnce();
        directAndAll();
        namesWithoutCells();
        formulasThatAreGone();
        branches();
        tapeStays();
        allOfSixtyFour();
        chainOfSixtyFour();
        blanksRoundTheName();
        NoNames.refused(CHECK, "readers(false)", x -> x.readers(false));
        NoNames.refused(CHECK, "readers(true)", x -> x.readers(true));
        CHECK.exit();
    }

    private static void none() {
        CHECK.test("no readers");
        CHECK.isRead("a", 0, 0);
        CHECK.defined("a=1");
        CHECK.isRead("a", 0, 0);
        CHECK.defined("b=A+a0+aa");
        CHECK.isRead("a", 0, 0);
    }

    private static void countedOnce() {
        CHECK.test("a cell counts once, however often the name stands in its formula");
        CHECK.defined("b=a*a+a");
        CHECK.isRead("a", 1, 1);
        CHECK.defined("c=a+b+b");
        CHECK.isRead("a", 2, 2);
        CHECK.isRead("b", 1, 1);
    }

    private static void directAndAll() {
        CHECK.test("in the formulas of how many; all: how many depend on it");
        CHECK.defined("b=a");
        CHECK.defined("c=b");
        CHECK.defined("d=c+a");
        CHECK.defined("e=1");
        CHECK.isRead("a", 2, 3);
        CHECK.isRead("b", 1, 2);
        CHECK.isRead("c", 1, 1);
        CHECK.isRead("d", 0, 0);
        CHECK.isRead("e", 0, 0);
        CHECK.test("no cell depends on itself, nor on what depends on it");
        CHECK.defined("a=1");
        CHECK.defined("b=a");
        CHECK.isRead("b", 0, 0);
        CHECK.isRead("a", 1, 1);
    }

    private static void namesWithoutCells() {
        CHECK.test("a name without a cell has readers, too");
        CHECK.defined("b=a");
        CHECK.defined("c=b");
        CHECK.isRead("a", 1, 2);
        CHECK.test("but through a name without a cell nothing depends");
        CHECK.defined("b=a");
        CHECK.defined("c=b");
        CHECK.removes("b", true);
        CHECK.isRead("a", 0, 0);
        CHECK.isRead("b", 1, 1);
        CHECK.defined("b=a");
        CHECK.isRead("a", 1, 2);
    }

    private static void formulasThatAreGone() {
        CHECK.test("a formula that is gone, or was refused, counts no more");
        CHECK.defined("b=a");
        CHECK.defined("b=c");
        CHECK.isRead("a", 0, 0);
        CHECK.isRead("c", 1, 1);
        CHECK.faulty("b=a+", 4, 2);
        CHECK.faulty("b=a+b", 4, 5);
        CHECK.isRead("a", 0, 0);
        CHECK.isRead("c", 1, 1);
        CHECK.removes("b", true);
        CHECK.isRead("c", 0, 0);
    }

    private static void branches() {
        CHECK.test("a name in a branch that is not taken counts");
        CHECK.defined("b=if(1,2,a)");
        CHECK.buildsAll(1);
        CHECK.isRead("a", 1, 1);
        CHECK.test("the first and the last of 20 names count");
        CHECK.defined("b=-a1+" + "a+".repeat(18) + "a20");
        CHECK.isRead("a1", 1, 1);
        CHECK.isRead("a20", 1, 1);
    }

    private static void tapeStays() {
        CHECK.test("the tape stays");
        CHECK.defined("b=a");
        CHECK.tape(" a ");
        CHECK.answers("readers(false)", 1, x -> x.readers(false));
        CHECK.counts(2, 3);
        CHECK.answers("readers(true)", 1, x -> x.readers(true));
        CHECK.counts(2, 3);
        CHECK.answers("build() of what stayed", -1, CellWorks::build);
    }

    private static void allOfSixtyFour() {
        CHECK.test("all 64 cells read a name");
        CHECK.fill(64, "x");
        CHECK.isRead("x", 64, 64);
        CHECK.isRead("n1", 0, 0);
        CHECK.defined("n64=n1");
        CHECK.isRead("x", 63, 64);
        CHECK.isRead("n1", 1, 1);
    }

    private static void chainOfSixtyFour() {
        CHECK.test("all 64 cells depend on a name, one through the other");
        for (int i = 1; i <= 64; i++) {
            CHECK.tape("n" + i + "=n" + (i + 1));
            CHECK.answers("define()", -1, CellWorks::define);
        }
        CHECK.isRead("n65", 1, 64);
        CHECK.isRead("n64", 1, 63);
        CHECK.isRead("n2", 1, 1);
        CHECK.isRead("n1", 0, 0);
        CHECK.test("and the other way round");
        for (int i = 1; i <= 64; i++) {
            CHECK.tape("n" + i + "=n" + (i - 1));
            CHECK.answers("define()", -1, CellWorks::define);
        }
        CHECK.isRead("n0", 1, 64);
        CHECK.isRead("n63", 1, 1);
    }

    private static void blanksRoundTheName() {
        CHECK.test("blanks round the name, names of 1 and of 8 bytes");
        CHECK.defined("b=a+abcdefgh");
        CHECK.isRead("\t\n\r a\t\n\r ", 1, 1);
        CHECK.isRead(" abcdefgh ", 1, 1);
        CHECK.isRead("abcdefg", 0, 0);
    }
}
