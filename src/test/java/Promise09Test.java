/** Promise 9: value, and of 'Results' how a formula is worked out. */
public final class Promise09Test {
    private static final Check CHECK = new Check("Promise 9 (value)");
    // 2 to the 63rd wraps to the least long.
    private static final String LEAST = "least=536870912*536870912*32";

    public static void main(String[] args) {
        zeroWithoutOne();
        keptTillWorkedOut();
        tapeStays();
        sumsWrap();
        productsWrap();
        negationsWrap();
        quotientsWrap();
        quotientsCutOff();
        lessersAndGreaters();
        choices();
        otherBranch();
        blanksRoundTheName();
        NoNames.refused(CHECK, "value()", CellWorks::value);
        CHECK.exit();
    }

    private static void hasValue(String name, long due) {
        CHECK.tape(name);
        CHECK.answers("value() of '" + name + "'", due, CellWorks::value);
    }

    private static void zeroWithoutOne() {
        CHECK.test("0 without a value: no cell, NOTHING, ERROR 1, ERROR 2");
        hasValue("a", 0);
        CHECK.defined("a=7");
        hasValue("a", 0);
        CHECK.buildsAll(1);
        hasValue("a", 7);
        hasValue("A", 0);
        CHECK.defined("a=7/0");
        CHECK.buildsAll(1);
        hasValue("a", 0);
        CHECK.defined("a=7+x");
        CHECK.buildsAll(1);
        hasValue("a", 0);
        CHECK.removes("a", true);
        hasValue("a", 0);
    }

    private static void keptTillWorkedOut() {
        CHECK.test("one that is defined anew keeps its result till it is worked out");
        CHECK.defined("a=7");
        CHECK.buildsAll(1);
        CHECK.defined("a=8");
        hasValue("a", 7);
        CHECK.defined("a=1/0");
        hasValue("a", 7);
        CHECK.buildsAll(1);
        hasValue("a", 0);
        CHECK.defined("a=9");
        hasValue("a", 0);
        CHECK.buildsAll(1);
        hasValue("a", 9);
        CHECK.test("a stale one keeps its result, too");
        CHECK.defined("a=1");
        CHECK.defined("b=a");
        CHECK.buildsAll(2);
        CHECK.defined("a=2");
        CHECK.builds("a", 1);
        hasValue("b", 1);
        CHECK.removes("a", true);
        hasValue("b", 1);
    }

    private static void tapeStays() {
        CHECK.test("the tape stays");
        CHECK.defined("a=7");
        CHECK.buildsAll(1);
        CHECK.tape(" a");
        CHECK.answers("value()", 7, CellWorks::value);
        CHECK.counts(2, 2);
        CHECK.answers("value() again", 7, CellWorks::value);
        CHECK.answers("remove() of what stayed", 1, x -> x.remove() ? 1 : 0);
    }

    private static void worked(String name, long due) {
        CHECK.builds(name, 1);
        CHECK.has(name, 1, due);
    }

    private static void sumsWrap() {
        CHECK.test("values wrap: + and -");
        CHECK.defined(LEAST);
        worked("least", Long.MIN_VALUE);
        CHECK.defined("most=least-1");
        worked("most", Long.MAX_VALUE);
        CHECK.makes("most+1", Long.MIN_VALUE);
        CHECK.makes("most+most", -2);
        CHECK.makes("least+least", 0);
        CHECK.makes("0-least", Long.MIN_VALUE);
        CHECK.makes("least-most", 1);
        CHECK.test("values do not wrap before a long's ends");
        CHECK.makes("999999999+999999999+999999999", 2999999997L);
        CHECK.makes("0-999999999-999999999-999999999", -2999999997L);
    }

    private static void productsWrap() {
        CHECK.test("values wrap: *");
        CHECK.makes("999999999*999999999", 999999998000000001L);
        CHECK.makes("999999999*999999999*999999999", 8515845249265065471L);
        CHECK.makes("536870912*536870912*32", Long.MIN_VALUE);
        CHECK.makes("536870912*536870912*64", 0);
        CHECK.defined(LEAST);
        worked("least", Long.MIN_VALUE);
        CHECK.makes("least*-1", Long.MIN_VALUE);
        CHECK.makes("least*3", Long.MIN_VALUE);
        CHECK.makes("(least+1)*-1", Long.MAX_VALUE);
    }

    private static void negationsWrap() {
        CHECK.test("values wrap: - before a PART");
        CHECK.defined(LEAST);
        worked("least", Long.MIN_VALUE);
        CHECK.makes("-least", Long.MIN_VALUE);
        CHECK.makes("-(least+1)", Long.MAX_VALUE);
        CHECK.makes("-(least-1)", -Long.MAX_VALUE);
        CHECK.makes("-0", 0);
    }

    private static void quotientsWrap() {
        CHECK.test("values wrap: the least by -1");
        CHECK.defined(LEAST);
        worked("least", Long.MIN_VALUE);
        CHECK.makes("least/-1", Long.MIN_VALUE);
        CHECK.makes("(least+1)/-1", Long.MAX_VALUE);
        CHECK.makes("least/1", Long.MIN_VALUE);
        CHECK.makes("least/least", 1);
        CHECK.makes("1/least", 0);
    }

    private static void quotientsCutOff() {
        CHECK.test("/ cuts off toward 0");
        CHECK.makes("7/2", 3);
        CHECK.makes("-7/2", -3);
        CHECK.makes("7/-2", -3);
        CHECK.makes("-7/-2", 3);
        CHECK.makes("1/2", 0);
        CHECK.makes("-1/2", 0);
        CHECK.makes("6/-2", -3);
        CHECK.makes("0/5", 0);
        CHECK.makes("999999999/1000000/-10", -99);
    }

    private static void lessersAndGreaters() {
        CHECK.test("min and max");
        CHECK.makes("min(1,2)*10+max(1,2)", 12);
        CHECK.makes("min(2,1)*10+max(2,1)", 12);
        CHECK.makes("min(-1,1)", -1);
        CHECK.makes("max(-1,1)", 1);
        CHECK.makes("min(0,0)+max(-5,-5)", -5);
        CHECK.test("min and max of the least and the greatest value");
        CHECK.defined(LEAST);
        worked("least", Long.MIN_VALUE);
        CHECK.makes("min(least,least-1)", Long.MIN_VALUE);
        CHECK.makes("max(least,least-1)", Long.MAX_VALUE);
        CHECK.makes("max(least,0)", 0);
    }

    private static void choices() {
        CHECK.test("if: the second when the first is above 0, else the third");
        CHECK.makes("if(1,2,3)", 2);
        CHECK.makes("if(0,2,3)", 3);
        CHECK.makes("if(-1,2,3)", 3);
        CHECK.makes("if(999999999,2,3)", 2);
        CHECK.defined(LEAST);
        worked("least", Long.MIN_VALUE);
        CHECK.makes("if(least,2,3)", 3);
        CHECK.makes("if(least-1,2,3)", 2);
        // The low 32 bits of the first are 0.
        CHECK.makes("if(65536*65536,2,3)", 2);
        CHECK.makes("10-if(1,2,3)-if(0,2,3)*2", 2);
    }

    private static void otherBranch() {
        CHECK.test("if: the other one is not worked out");
        CHECK.makes("if(1,2,1/0)", 2);
        CHECK.makes("if(0,1/0,3)", 3);
        CHECK.makes("if(1,2,x)", 2);
        CHECK.makes("if(0,x,3)", 3);
        CHECK.makes("if(0,if(1,1/0,x),if(1,4,x))", 4);
        CHECK.makes("if(1,if(0,x,5),1/0)+if(0,x/0,6)", 11);
    }

    private static void blanksRoundTheName() {
        CHECK.test("blanks round the name, names of 1 and of 8 bytes");
        CHECK.defined("a=1");
        CHECK.defined("abcdefgh=2");
        CHECK.buildsAll(2);
        hasValue("\t\n\r a\t\n\r ", 1);
        hasValue(" abcdefgh ", 2);
        hasValue("abcdefg", 0);
    }
}
