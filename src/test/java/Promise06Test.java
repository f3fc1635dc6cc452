/** Promise 6: remove. */
public final class Promise06Test {
    private static final Check CHECK = new Check("Promise 6 (remove)");

    public static void main(String[] args) {
        whetherThereWasOne();
        tapeIsEmptyThen();
        justThatCell();
        firstMiddleAndLast();
        fullAndEmptyAgain();
        resultIsNothing();
        newAgain();
        whatWasBuiltStays();
        blanksRoundTheName();
        NoNames.refused(CHECK, "remove()", x -> x.remove() ? 1 : 0);
        CHECK.exit();
    }

    private static void whetherThereWasOne() {
        CHECK.test("whether there was one");
        CHECK.removes("a", false);
        CHECK.defined("a=1");
        CHECK.removes("b", false);
        CHECK.removes("A", false);
        CHECK.removes("a0", false);
        CHECK.removes("a", true);
        CHECK.removes("a", false);
        CHECK.counts(0, 0);
        CHECK.test("a name that stands in formulas has no cell by that");
        CHECK.defined("a=b");
        CHECK.removes("b", false);
        CHECK.counts(0, 1);
        CHECK.isRead("b", 1, 1);
    }

    private static void tapeIsEmptyThen() {
        CHECK.test("the tape is empty then, whether there was one or not");
        CHECK.defined("a=1");
        CHECK.tape("a");
        CHECK.answers("remove()", 1, x -> x.remove() ? 1 : 0);
        CHECK.counts(2, 0);
        CHECK.tape("a");
        CHECK.answers("remove()", 0, x -> x.remove() ? 1 : 0);
        CHECK.counts(2, 0);
    }

    private static void justThatCell() {
        CHECK.test("its cell is there no more, the others are");
        CHECK.defined("a=1");
        CHECK.defined("b=a");
        CHECK.defined("c=b");
        CHECK.buildsAll(3);
        CHECK.removes("b", true);
        CHECK.counts(0, 2);
        CHECK.has("a", 1, 1);
        CHECK.has("b", -1, 0);
        CHECK.has("c", 5, 1);
        CHECK.isRead("a", 0, 0);
        CHECK.isRead("b", 1, 1);
    }

    private static void firstMiddleAndLast() {
        for (String gone : new String[] {"a", "b", "c"}) {
            CHECK.test("of three cells just " + gone + " is gone");
            CHECK.defined("b=2");
            CHECK.defined("c=3");
            CHECK.defined("a=1");
            CHECK.buildsAll(3);
            CHECK.removes(gone, true);
            CHECK.has("a", gone.equals("a") ? -1 : 1, gone.equals("a") ? 0 : 1);
            CHECK.has("b", gone.equals("b") ? -1 : 1, gone.equals("b") ? 0 : 2);
            CHECK.has("c", gone.equals("c") ? -1 : 1, gone.equals("c") ? 0 : 3);
        }
    }

    private static void fullAndEmptyAgain() {
        CHECK.test("all of 64 cells can be removed");
        CHECK.fill(64, "1");
        for (int i = 0; i < 64; i++) {
            CHECK.tape("n" + (i % 2 == 0 ? 1 + i / 2 : 64 - i / 2));
            CHECK.answers("remove()", 1, x -> x.remove() ? 1 : 0);
        }
        CHECK.counts(0, 0);
        CHECK.buildsAll(0);
    }

    private static void resultIsNothing() {
        CHECK.test("the result of a name without a cell is NOTHING");
        CHECK.defined("a=0");
        CHECK.defined("b=a");
        CHECK.buildsAll(2);
        CHECK.has("b", 1, 0);
        CHECK.removes("a", true);
        CHECK.has("a", -1, 0);
        CHECK.has("b", 5, 0);
        CHECK.buildsAll(1);
        CHECK.has("b", 3, 0);
        CHECK.test("a cell without a result goes, and nothing is stale by that");
        CHECK.defined("b=a");
        CHECK.buildsAll(1);
        CHECK.defined("a=1");
        CHECK.removes("a", true);
        CHECK.has("b", 3, 0);
    }

    private static void newAgain() {
        CHECK.test("one that is defined after it was removed is new");
        CHECK.defined("a=1");
        CHECK.buildsAll(1);
        CHECK.removes("a", true);
        CHECK.defined("a=1");
        CHECK.has("a", 4, 0);
        CHECK.buildsAll(1);
        CHECK.has("a", 1, 1);
    }

    private static void whatWasBuiltStays() {
        CHECK.test("what was worked out stays told and counted");
        CHECK.defined("a=1");
        CHECK.defined("b=1");
        CHECK.buildsAll(2);
        CHECK.removes("a", true);
        CHECK.worked("a b");
        CHECK.counts(3, 2);
        CHECK.counts(4, 2);
        CHECK.removes("b", true);
        CHECK.worked("a b");
    }

    private static void blanksRoundTheName() {
        CHECK.test("blanks round the name, names of 1 and of 8 bytes");
        CHECK.defined("a=1");
        CHECK.defined("abcdefgh=1");
        CHECK.removes("\t\n\r a\t\n\r ", true);
        CHECK.removes(" abcdefgh ", true);
        CHECK.counts(0, 0);
    }
}
