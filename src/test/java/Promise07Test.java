/** Promise 7: build, and of 'Terms' what it is to build a cell. */
public final class Promise07Test {
    private static final Check CHECK = new Check("Promise 7 (build)");

    public static void main(String[] args) {
        howMany();
        withoutCell();
        tapeIsEmptyThen();
        onWhichItDepends();
        onlyOnWhichItDepends();
        eachBeforeThose();
        staleThen();
        notStale();
        branchNotTaken();
        allSixtyFour();
        blanksRoundTheName();
        NoNames.refused(CHECK, "build()", CellWorks::build);
        CHECK.exit();
    }

    private static void howMany() {
        CHECK.test("how many cells were worked out");
        CHECK.defined("a=1");
        CHECK.builds("a", 1);
        CHECK.builds("a", 0);
        CHECK.defined("b=a+a");
        CHECK.builds("b", 1);
        CHECK.defined("a=2");
        CHECK.builds("b", 2);
        CHECK.has("b", 1, 4);
        CHECK.builds("b", 0);
        CHECK.test("a cell counts also when it has an ERROR");
        CHECK.defined("a=1/0");
        CHECK.defined("b=a");
        CHECK.builds("b", 2);
        CHECK.builds("b", 0);
    }

    private static void withoutCell() {
        CHECK.test("NONE without a cell");
        CHECK.builds("a", -1);
        CHECK.defined("b=a");
        CHECK.builds("a", -1);
        CHECK.has("b", 4, 0);
        CHECK.defined("a=1");
        CHECK.builds("a", 1);
        CHECK.removes("a", true);
        CHECK.builds("a", -1);
        CHECK.counts(3, 1);
    }

    private static void tapeIsEmptyThen() {
        CHECK.test("the tape is empty then, with a cell and without");
        CHECK.defined("a=1");
        for (int due : new int[] {1, 0}) {
            CHECK.tape("a");
            CHECK.answers("build()", due, CellWorks::build);
            CHECK.counts(2, 0);
        }
        CHECK.tape("b");
        CHECK.answers("build()", -1, CellWorks::build);
        CHECK.counts(2, 0);
    }

    private static void onWhichItDepends() {
        CHECK.test("all cells on which it depends are built");
        CHECK.defined("top=left+right");
        CHECK.defined("left=base*2");
        CHECK.defined("right=base*3");
        CHECK.defined("base=10");
        CHECK.builds("top", 4);
        CHECK.worked("base left right top");
        CHECK.has("top", 1, 50);
        CHECK.has("base", 1, 10);
        CHECK.counts(1, 0);
    }

    private static void onlyOnWhichItDepends() {
        CHECK.test("no other cell is built, nor one that depends on it");
        CHECK.defined("a=1");
        CHECK.defined("b=a");
        CHECK.defined("c=b");
        CHECK.defined("aside=a");
        CHECK.builds("b", 2);
        CHECK.worked("a b");
        CHECK.has("c", 4, 0);
        CHECK.has("aside", 4, 0);
        CHECK.counts(1, 2);
        CHECK.test("of a name without a cell nothing is built");
        CHECK.defined("a=b+c");
        CHECK.defined("c=1");
        CHECK.builds("a", 2);
        CHECK.has("a", 3, 0);
    }

    private static void eachBeforeThose() {
        // Whichever name comes first, the cell that is read is worked out first.
        for (String[] order : new String[][] {{"a", "b", "c"}, {"c", "b", "a"}, {"b", "a", "c"}, {"b", "c", "a"}}) {
            CHECK.test("each before those that depend on it: " + String.join(" ", order));
            CHECK.defined(order[0] + "=" + order[1] + "+" + order[2]);
            CHECK.defined(order[1] + "=" + order[2] + "*10");
            CHECK.defined(order[2] + "=7");
            CHECK.builds(order[0], 3);
            CHECK.has(order[0], 1, 77);
            CHECK.counts(1, 0);
            CHECK.defined(order[2] + "=8");
            CHECK.builds(order[0], 3);
            CHECK.has(order[0], 1, 88);
        }
    }

    private static void staleThen() {
        CHECK.test("worked out if it is stale then: no longer, when what it reads has its old result");
        CHECK.defined("a=1");
        CHECK.defined("b=a/10");
        CHECK.defined("c=b");
        CHECK.builds("c", 3);
        CHECK.defined("a=2");
        CHECK.builds("c", 2);
        CHECK.worked("a b");
        CHECK.has("c", 1, 0);
        CHECK.test("and only then stale, when what it reads gets another result");
        CHECK.defined("a=1");
        CHECK.defined("b=a");
        CHECK.builds("b", 2);
        CHECK.defined("a=2");
        CHECK.has("b", 1, 1);
        CHECK.builds("b", 2);
        CHECK.has("b", 1, 2);
        CHECK.test("stale before, but not then");
        CHECK.defined("a=1");
        CHECK.defined("b=a");
        CHECK.builds("b", 2);
        CHECK.defined("a=2");
        CHECK.builds("a", 1);
        CHECK.has("b", 5, 1);
        CHECK.defined("a=1");
        CHECK.builds("b", 1);
        CHECK.worked("a");
        CHECK.has("b", 1, 1);
    }

    private static void notStale() {
        CHECK.test("a cell that is not stale is not worked out");
        CHECK.defined("a=1");
        CHECK.defined("b=a");
        CHECK.builds("b", 2);
        CHECK.builds("b", 0);
        CHECK.counts(4, 0);
        CHECK.counts(3, 2);
        CHECK.test("one that is defined anew is, with the same formula too");
        CHECK.defined("a=1");
        CHECK.builds("a", 1);
        CHECK.defined("a=1");
        CHECK.builds("a", 1);
    }

    private static void branchNotTaken() {
        CHECK.test("a cell depends also on the names in the branch that is not taken");
        CHECK.defined("a=if(1,5,b)");
        CHECK.defined("b=c/0");
        CHECK.defined("c=1");
        CHECK.builds("a", 3);
        CHECK.worked("a b c");
        CHECK.has("a", 1, 5);
        CHECK.has("b", 2, 0);
    }

    private static void allSixtyFour() {
        CHECK.test("a chain of all 64 cells, against the order of names");
        for (int i = 1; i <= 64; i++) {
            CHECK.tape("n" + (99 - i) + "=" + (i == 64 ? "0" : "n" + (98 - i) + "+1"));
            CHECK.answers("define()", -1, CellWorks::define);
        }
        CHECK.builds("n98", 64);
        CHECK.has("n98", 1, 63);
        CHECK.defined("n35=5");
        CHECK.builds("n97", 63);
        CHECK.has("n97", 1, 67);
        CHECK.has("n98", 5, 63);
        CHECK.counts(3, 127);
        CHECK.test("a chain of all 64 cells, in the order of names");
        for (int i = 1; i <= 64; i++) {
            CHECK.tape("n" + (34 + i) + "=" + (i == 64 ? "0" : "n" + (35 + i) + "+1"));
            CHECK.answers("define()", -1, CellWorks::define);
        }
        CHECK.builds("n35", 64);
        CHECK.has("n35", 1, 63);
    }

    private static void blanksRoundTheName() {
        CHECK.test("blanks round the name, names of 1 and of 8 bytes");
        CHECK.defined("a=1");
        CHECK.defined("abcdefgh=1");
        CHECK.builds("\t\n\r a\t\n\r ", 1);
        CHECK.builds(" abcdefgh ", 1);
    }
}
