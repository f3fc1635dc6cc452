/** Promise 10: state, and of 'Results' the errors and what is stale. */
public final class Promise10Test {
    private static final Check CHECK = new Check("Promise 10 (state)");

    public static void main(String[] args) {
        withoutCell();
        eachState();
        tapeStays();
        divisionByZero();
        namesWithoutValue();
        firstError();
        defined();
        staleByValue();
        staleByKindOfResult();
        staleByAnyName();
        notStaleByNothing();
        notStaleFromFarther();
        backAgain();
        blanksRoundTheName();
        NoNames.refused(CHECK, "state()", CellWorks::state);
        CHECK.exit();
    }

    private static void isIn(String name, int due) {
        CHECK.tape(name);
        CHECK.answers("state() of '" + name + "'", due, CellWorks::state);
    }

    private static void withoutCell() {
        CHECK.test("NONE without a cell");
        isIn("a", -1);
        CHECK.defined("b=a");
        isIn("a", -1);
        isIn("B", -1);
        isIn("b0", -1);
        CHECK.defined("a=1");
        CHECK.buildsAll(2);
        CHECK.removes("a", true);
        isIn("a", -1);
    }

    private static void eachState() {
        CHECK.test("each result, stale and not");
        CHECK.defined("a=1");
        isIn("a", 4);
        CHECK.buildsAll(1);
        isIn("a", 1);
        CHECK.defined("a=1/0");
        isIn("a", 5);
        CHECK.buildsAll(1);
        isIn("a", 2);
        CHECK.defined("a=b");
        isIn("a", 6);
        CHECK.buildsAll(1);
        isIn("a", 3);
        CHECK.defined("b=0");
        isIn("a", 3);
        CHECK.builds("b", 1);
        isIn("a", 7);
        CHECK.buildsAll(1);
        isIn("a", 1);
        isIn("b", 1);
    }

    private static void tapeStays() {
        CHECK.test("the tape stays");
        CHECK.defined("a=7");
        CHECK.tape(" a");
        CHECK.answers("state()", 4, CellWorks::state);
        CHECK.counts(2, 2);
        CHECK.answers("state() again", 4, CellWorks::state);
        CHECK.answers("build() of what stayed", 1, CellWorks::build);
    }

    private static void divisionByZero() {
        CHECK.test("ERROR 1 is a division by 0");
        CHECK.worksOut("1/0", 2, 0);
        CHECK.worksOut("0/0", 2, 0);
        CHECK.worksOut("-1/0", 2, 0);
        CHECK.worksOut("1/-0", 2, 0);
        CHECK.worksOut("1/(2-2)", 2, 0);
        CHECK.worksOut("1+2*3/0-4", 2, 0);
        CHECK.worksOut("min(1,2/0)", 2, 0);
        CHECK.worksOut("if(1/0,1,2)", 2, 0);
        CHECK.worksOut("0*(1/0)", 2, 0);
        CHECK.test("a division of 0, and by what is not 0, is none");
        CHECK.worksOut("0/1", 1, 0);
        CHECK.worksOut("1/1", 1, 1);
        CHECK.worksOut("1/-1", 1, -1);
        CHECK.worksOut("1/(65536*65536)", 1, 0);
    }

    private static void namesWithoutValue() {
        CHECK.test("ERROR 2 is a name without a cell");
        CHECK.worksOut("x", 3, 0);
        CHECK.worksOut("-x", 3, 0);
        CHECK.worksOut("0*x", 3, 0);
        CHECK.worksOut("min(1,x)", 3, 0);
        CHECK.worksOut("if(x,1,2)", 3, 0);
        CHECK.test("ERROR 2 is a name whose result is an ERROR, whichever");
        CHECK.defined("e=1/0");
        CHECK.defined("f=e");
        CHECK.defined("g=f");
        CHECK.builds("g", 3);
        isIn("e", 2);
        isIn("f", 3);
        isIn("g", 3);
        CHECK.test("a value of 0 is a value");
        CHECK.defined("z=0");
        CHECK.defined("y=z");
        CHECK.builds("y", 2);
        isIn("y", 1);
    }

    private static void firstError() {
        CHECK.test("the first ERROR that is met, from the left, is the formula's");
        CHECK.worksOut("1/0+x", 2, 0);
        CHECK.worksOut("x+1/0", 3, 0);
        CHECK.worksOut("1/0*x", 2, 0);
        CHECK.worksOut("1*x/0", 3, 0);
        CHECK.worksOut("1/x/0", 3, 0);
        CHECK.worksOut("x/0", 3, 0);
        CHECK.worksOut("1+(2*(3/0))-x", 2, 0);
        CHECK.test("the first ERROR that is met in functions");
        CHECK.worksOut("min(1/0,x)", 2, 0);
        CHECK.worksOut("max(x,1/0)", 3, 0);
        CHECK.worksOut("if(1,x,1/0)", 3, 0);
        CHECK.worksOut("if(0,x,1/0)", 2, 0);
        CHECK.worksOut("if(x,1/0,1/0)", 3, 0);
        CHECK.worksOut("if(1/0,x,x)", 2, 0);
        CHECK.worksOut("if(1,2,x)/0+x", 2, 0);
    }

    private static void defined() {
        CHECK.test("stale when it was not worked out since it was defined");
        CHECK.defined("a=1");
        isIn("a", 4);
        CHECK.buildsAll(1);
        isIn("a", 1);
        CHECK.defined("a=1");
        isIn("a", 5);
        CHECK.defined("a=2");
        isIn("a", 5);
        CHECK.defined("b=1");
        CHECK.builds("b", 1);
        isIn("a", 5);
        CHECK.test("a definition with a fault makes nothing stale");
        CHECK.defined("a=1");
        CHECK.buildsAll(1);
        CHECK.faulty("a=2 2", 4, 2);
        CHECK.faulty("a=a", 2, 5);
        isIn("a", 1);
    }

    private static void staleByValue() {
        CHECK.test("stale when a name has another value now");
        CHECK.defined("a=1");
        CHECK.defined("b=a");
        CHECK.buildsAll(2);
        CHECK.defined("a=2");
        isIn("b", 1);
        CHECK.builds("a", 1);
        isIn("b", 5);
        CHECK.test("also when just the high half of the value is another");
        CHECK.defined("a=1");
        CHECK.defined("b=a");
        CHECK.buildsAll(2);
        CHECK.defined("a=65536*65536+1");
        CHECK.builds("a", 1);
        isIn("b", 5);
        CHECK.test("not stale when it is the same value, however it came");
        CHECK.defined("a=4");
        CHECK.defined("b=a");
        CHECK.buildsAll(2);
        CHECK.defined("a=2*2");
        CHECK.builds("a", 1);
        isIn("b", 1);
    }

    private static void staleByKindOfResult() {
        String[] results = {"", "0", "1/0", "x"};
        for (String before : results) {
            for (String after : results) {
                CHECK.test("another result: '" + before + "' before, '" + after + "' now");
                CHECK.defined("b=if(1,2,a)");
                if (!before.isEmpty()) {
                    CHECK.defined("a=" + before);
                }
                CHECK.builds("b", before.isEmpty() ? 1 : 2);
                isIn("b", 1);
                if (!after.isEmpty()) {
                    CHECK.defined("a=" + after);
                    CHECK.builds("a", 1);
                } else {
                    CHECK.removes("a", !before.isEmpty());
                }
                isIn("b", before.equals(after) ? 1 : 5);
                CHECK.counts(1, before.equals(after) ? 0 : 1);
            }
        }
    }

    private static void staleByAnyName() {
        String[] names = {"c", "d", "e", "f"};
        for (String name : names) {
            CHECK.test("stale by any of the names in its formula: " + name);
            for (String each : names) {
                CHECK.defined(each + "=1");
            }
            CHECK.defined("b=if(c,d,e)+min(1,f)");
            CHECK.buildsAll(5);
            isIn("b", 1);
            CHECK.defined(name + "=2");
            CHECK.builds(name, 1);
            isIn("b", 5);
        }
        CHECK.test("stale by the last of 20 names");
        CHECK.defined("b=" + "c+".repeat(19) + "d");
        CHECK.buildsAll(1);
        isIn("b", 3);
        CHECK.defined("d=1");
        CHECK.builds("d", 1);
        isIn("b", 7);
    }

    private static void notStaleByNothing() {
        CHECK.test("a new cell has the result that its name had without one");
        CHECK.defined("b=a");
        CHECK.buildsAll(1);
        isIn("b", 3);
        CHECK.defined("a=1");
        isIn("b", 3);
        CHECK.removes("a", true);
        isIn("b", 3);
        CHECK.defined("a=1");
        CHECK.builds("a", 1);
        isIn("b", 7);
    }

    private static void notStaleFromFarther() {
        CHECK.test("not stale by a name that stands in no formula of its own");
        CHECK.defined("a=1");
        CHECK.defined("b=a");
        CHECK.defined("c=b");
        CHECK.buildsAll(3);
        CHECK.defined("a=2");
        CHECK.builds("a", 1);
        isIn("b", 5);
        isIn("c", 1);
        CHECK.builds("b", 1);
        isIn("c", 5);
    }

    private static void backAgain() {
        CHECK.test("no longer stale when the name has its old result again");
        CHECK.defined("a=1");
        CHECK.defined("b=a");
        CHECK.buildsAll(2);
        CHECK.defined("a=2");
        CHECK.builds("a", 1);
        isIn("b", 5);
        CHECK.defined("a=1");
        CHECK.builds("a", 1);
        isIn("b", 1);
        CHECK.removes("a", true);
        isIn("b", 5);
        CHECK.defined("a=1");
        isIn("b", 5);
        CHECK.builds("a", 1);
        isIn("b", 1);
    }

    private static void blanksRoundTheName() {
        CHECK.test("blanks round the name, names of 1 and of 8 bytes");
        CHECK.defined("a=1");
        CHECK.defined("abcdefgh=2");
        isIn("\t\n\r a\t\n\r ", 4);
        isIn(" abcdefgh ", 4);
        isIn("abcdefg", -1);
    }
}
