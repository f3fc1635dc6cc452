/** Promise 4: define, and of 'Terms' what a definition is. */
public final class Promise04TextsTest {
    private static final Check CHECK = new Check("Promise 4 (define: texts)");

    public static void main(String[] args) {
        definitions();
        tapeIsEmptyThen();
        incompleteDefinitions();
        sums();
        products();
        negations();
        brackets();
        lessersAndGreaters();
        choices();
        nothingBehind();
        nothingDefined();
        definedAnew();
        CHECK.exit();
    }

    private static void definitions() {
        CHECK.test("a definition is a NAME, = and a SUM");
        CHECK.defined("a=1");
        CHECK.defined("b=a");
        CHECK.defined("c=min(1,2)+max(3,c1)*if(d,e,f)/-(g)---h");
        CHECK.counts(0, 3);
        CHECK.faulty("1=1", 0, 2);
        CHECK.faulty("=1", 0, 2);
        CHECK.faulty("(a)=1", 0, 2);
        CHECK.faulty("-a=1", 0, 2);
        CHECK.faulty("a 1", 2, 2);
        CHECK.faulty("a+1", 1, 2);
        CHECK.test("there is just one =");
        CHECK.faulty("a==1", 2, 2);
        CHECK.faulty("a=1=2", 3, 2);
        CHECK.faulty("a=b=2", 3, 2);
        CHECK.faulty("a=(b=2)", 4, 2);
    }

    private static void tapeIsEmptyThen() {
        CHECK.test("the tape is empty then, with a fault and without");
        CHECK.tape("a=1");
        CHECK.answers("define()", -1, CellWorks::define);
        CHECK.counts(2, 0);
        CHECK.tape("a=1 1");
        CHECK.answers("define()", 4, CellWorks::define);
        CHECK.counts(2, 0);
        CHECK.feedsOnly(20, ' ');
        CHECK.answers("define()", 20, CellWorks::define);
    }

    private static void incompleteDefinitions() {
        CHECK.test("a definition that ends too early has its fault at the end");
        CHECK.faulty("", 0, 2);
        CHECK.faulty("a", 1, 2);
        CHECK.faulty("a=", 2, 2);
        CHECK.faulty("a=1+", 4, 2);
        CHECK.faulty("a=1*", 4, 2);
        CHECK.faulty("a=-", 3, 2);
        CHECK.faulty("a=(", 3, 2);
        CHECK.faulty("a=(1", 4, 2);
        CHECK.faulty("a=min", 5, 2);
        CHECK.faulty("a=min(", 6, 2);
        CHECK.faulty("a=min(1", 7, 2);
        CHECK.faulty("a=min(1,", 8, 2);
        CHECK.faulty("a=min(1,2", 9, 2);
        CHECK.test("the end is behind the blanks");
        CHECK.faulty("a ", 2, 2);
        CHECK.faulty("a=1+ \t", 6, 2);
        CHECK.faulty("a=(1   ", 7, 2);
    }

    private static void sums() {
        CHECK.test("a SUM goes from the left, + and - alike");
        CHECK.makes("10-3-2", 5);
        CHECK.makes("10-3+2", 9);
        CHECK.makes("1+2-3+4", 4);
        CHECK.test("a PRODUCT stands on both sides of + and -");
        CHECK.faulty("a=+1", 2, 2);
        CHECK.faulty("a=1++2", 4, 2);
        CHECK.faulty("a=1-+2", 4, 2);
        CHECK.faulty("a=(+1)", 3, 2);
        CHECK.faulty("a=1+)", 4, 2);
    }

    private static void products() {
        CHECK.test("a PRODUCT goes from the left, * and / alike, and before a SUM");
        CHECK.makes("100/5/2", 10);
        CHECK.makes("100/5*2", 40);
        CHECK.makes("2*7/3", 4);
        CHECK.makes("1+2*3", 7);
        CHECK.makes("2*3+1", 7);
        CHECK.makes("9-8/4", 7);
        CHECK.test("a PART stands on both sides of * and /");
        CHECK.faulty("a=*1", 2, 2);
        CHECK.faulty("a=/1", 2, 2);
        CHECK.faulty("a=1**2", 4, 2);
        CHECK.faulty("a=1+*2", 4, 2);
        CHECK.faulty("a=1*+2", 4, 2);
        CHECK.faulty("a=1/", 4, 2);
    }

    private static void negations() {
        CHECK.test("- and a PART is a PART");
        CHECK.makes("-5", -5);
        CHECK.makes("--5", 5);
        CHECK.makes("1--1", 2);
        CHECK.makes("2*-3", -6);
        CHECK.makes("-(2+3)*2", -10);
        CHECK.makes("-2+3", 1);
        CHECK.test("- takes its PART alone, and no PRODUCT");
        CHECK.defined("h=536870912*536870912*32");
        CHECK.builds("h", 1);
        // -h wraps to h, but -(h/2) does not.
        CHECK.makes("-h/2", Long.MIN_VALUE / 2);
        CHECK.makes("-(h/2)", -(Long.MIN_VALUE / 2));
    }

    private static void brackets() {
        CHECK.test("( SUM ) is a PART");
        CHECK.makes("(1+2)*3", 9);
        CHECK.makes("((7))", 7);
        CHECK.makes("10-(3-2)", 9);
        CHECK.test("brackets hold just one SUM, and are closed");
        CHECK.faulty("a=()", 3, 2);
        CHECK.faulty("a=(1,2)", 4, 2);
        CHECK.faulty("a=(1 2)", 5, 2);
        CHECK.faulty("a=1)", 3, 2);
        CHECK.faulty("a=(1))", 5, 2);
        CHECK.faulty("a=)", 2, 2);
        CHECK.faulty("a=b(1)", 3, 2);
        CHECK.faulty("a=2(1)", 3, 2);
        CHECK.faulty("a=(1)(2)", 5, 2);
    }

    private static void lessersAndGreaters() {
        CHECK.test("min and max have two SUMs");
        CHECK.makes("min(3,-4)", -4);
        CHECK.makes("max(3,-4)", 3);
        CHECK.makes("min(2,2)-max(2,2)", 0);
        CHECK.makes("min(1+1,4-1)*max(2*2,1)", 8);
        for (String function : new String[] {"min", "max"}) {
            CHECK.test(function + " with fewer or more than two SUMs");
            CHECK.faulty("a=" + function + "()", 6, 2);
            CHECK.faulty("a=" + function + "(1)", 7, 2);
            CHECK.faulty("a=" + function + "(1,)", 8, 2);
            CHECK.faulty("a=" + function + "(,1)", 6, 2);
            CHECK.faulty("a=" + function + "(1,2,3)", 9, 2);
            CHECK.faulty("a=" + function + "(1,2,)", 9, 2);
            CHECK.faulty("a=" + function + "((1,2),3)", 8, 2);
            CHECK.faulty("a=" + function + " 1", 6, 2);
            CHECK.faulty("a=" + function + "-1", 5, 2);
        }
    }

    private static void choices() {
        CHECK.test("if has three SUMs");
        CHECK.makes("if(1,2,3)", 2);
        CHECK.makes("if(1-1,2,3)+if ( 1 , 4 , 5 )", 7);
        CHECK.makes("if(if(0,1,2),if(0,3,4),if(0,5,6))", 4);
        CHECK.makes("1+if(1-1,if(0,5,6),7)*10-if(1,2,3)", 69);
        CHECK.test("if with fewer or more than three SUMs");
        CHECK.faulty("a=if()", 5, 2);
        CHECK.faulty("a=if(1)", 6, 2);
        CHECK.faulty("a=if(1,2)", 8, 2);
        CHECK.faulty("a=if(1,2,)", 9, 2);
        CHECK.faulty("a=if(1,2,3,4)", 10, 2);
        CHECK.faulty("a=if(1,2,3,)", 10, 2);
        CHECK.faulty("a=if 1", 5, 2);
        CHECK.faulty("a=if(1,2,3", 10, 2);
    }

    private static void nothingBehind() {
        CHECK.test("nothing stands behind the SUM");
        CHECK.faulty("a=1 2", 4, 2);
        CHECK.faulty("a=1 b", 4, 2);
        CHECK.faulty("a=1,2", 3, 2);
        CHECK.faulty("a=1 min(1,2)", 4, 2);
        CHECK.faulty("a=b c=1", 4, 2);
        CHECK.faulty("a=1(", 3, 2);
    }

    private static void nothingDefined() {
        for (String[] fault : new String[][] {{"a=2+$", "4", "1"}, {"a=2+", "4", "2"}, {"a=b+a", "4", "5"},
            {"a=" + "-".repeat(21) + "2", "22", "3"}, {"a=" + "c+".repeat(20) + "c", "42", "3"}}) {
            CHECK.test("with a fault nothing is defined: '" + fault[0] + "'");
            CHECK.defined("a=1");
            CHECK.defined("r=a");
            CHECK.buildsAll(2);
            CHECK.faulty(fault[0], Integer.parseInt(fault[1]), Integer.parseInt(fault[2]));
            CHECK.has("a", 1, 1);
            CHECK.isRead("b", 0, 0);
            CHECK.isRead("c", 0, 0);
            CHECK.buildsAll(0);
        }
        CHECK.test("with a fault there is no new cell");
        CHECK.faulty("a=b+", 4, 2);
        CHECK.faulty("a=b+a", 4, 5);
        CHECK.has("a", -1, 0);
        CHECK.isRead("b", 0, 0);
        CHECK.counts(0, 0);
    }

    private static void definedAnew() {
        CHECK.test("a cell that is defined anew has the new formula alone");
        CHECK.defined("a=b+c");
        CHECK.defined("a=c*d");
        CHECK.counts(0, 1);
        CHECK.isRead("b", 0, 0);
        CHECK.isRead("c", 1, 1);
        CHECK.isRead("d", 1, 1);
        CHECK.defined("a=5");
        CHECK.isRead("c", 0, 0);
        CHECK.buildsAll(1);
        CHECK.has("a", 1, 5);
    }
}
