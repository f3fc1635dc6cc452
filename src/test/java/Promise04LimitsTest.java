/** Promise 4: define, and of 'Terms' the greatest numbers of nodes, of the depth and of the cells. */
public final class Promise04LimitsTest {
    private static final Check CHECK = new Check("Promise 4 (define: limits)");

    public static void main(String[] args) {
        fortyNodes();
        fortyFirstNode();
        everyKindIsOneNode();
        whatIsNoNode();
        depthOfTwenty();
        depthOfTwentyOne();
        whatIsNotDeep();
        sixtyFourCells();
        roomAgain();
        CHECK.exit();
    }

    /** A sum of so many numbers: one node less than twice as many. */
    private static String ones(int n) {
        return "1+".repeat(n - 1) + "1";
    }

    private static String wrapped(int n, String inner) {
        return "(".repeat(n) + inner + ")".repeat(n);
    }

    private static void fortyNodes() {
        CHECK.test("40 nodes are allowed");
        CHECK.makes(ones(20), 20);
        CHECK.makes("-" + ones(20), 18);
        CHECK.makes(ones(19) + "*-1", 17);
        CHECK.makes("-min(" + ones(19) + ",2)", -2);
        CHECK.makes("max(" + ones(19) + ",-2)", 19);
        CHECK.makes("if(1,2," + ones(19) + ")", 2);
        CHECK.makes("if(0,2," + ones(19) + ")", 19);
        CHECK.test("40 nodes with names are allowed");
        CHECK.defined("a=-" + "b+".repeat(19) + "c");
        CHECK.isRead("b", 1, 1);
        CHECK.isRead("c", 1, 1);
    }

    private static void fortyFirstNode() {
        // Behind ones(20) and a sign, which are 40 nodes in 40 bytes, the 41st begins at 42.
        for (String last : new String[] {"1", "b", "-1", "min(1,2)", "max(1,2)", "if(1,2,3)", "-", "min"}) {
            CHECK.test("the 41st node is '" + last + "'");
            CHECK.faulty("a=" + ones(20) + "+" + last, 42, 3);
        }
        for (String sign : new String[] {"+", "-", "*", "/"}) {
            CHECK.test("the 41st node is the sign " + sign);
            CHECK.faulty("a=-" + ones(20) + sign + "1", 42, 3);
            CHECK.faulty("a=-" + ones(20) + "  " + sign + "1", 44, 3);
        }
        CHECK.test("the 41st node stands in brackets");
        CHECK.faulty("a=" + ones(20) + "+(1)", 43, 3);
        CHECK.faulty("a=min(" + ones(20) + ",((2)))", 48, 3);
        CHECK.faulty("a=if(1,2,-" + ones(19) + ")", 46, 3);
    }

    private static void everyKindIsOneNode() {
        // Each of these has 40 nodes, and 41 with the - before it.
        for (String text : new String[] {"-" + ones(20), "-" + "b+".repeat(19) + "b", "-" + "1-".repeat(19) + "1",
            "-" + "1*".repeat(19) + "1", "-" + "1/".repeat(19) + "1", "-min(" + ones(19) + ",2)",
            "-max(" + ones(19) + ",2)", "if(1,2," + ones(19) + ")", "--" + ones(18) + "*-1"}) {
            CHECK.test("nodes are numbers, names, signs and functions: '" + text + "'");
            CHECK.defined("a=" + text);
            CHECK.tape("a=-" + text);
            CHECK.answers("define() with one node more", lastNode("a=-" + text), CellWorks::define);
            CHECK.answers("fault() with one node more", 3, CellWorks::fault);
        }
    }

    private static int lastNode(String text) {
        int last = text.length() - 1;
        while ("(),".indexOf(text.charAt(last)) >= 0) {
            last--;
        }
        return last;
    }

    private static void whatIsNoNode() {
        CHECK.test("( ) and , are no nodes, nor are the cell's name and =");
        CHECK.defined("abcdefgh=-" + ones(20));
        CHECK.defined("a=" + wrapped(20, ones(20)));
        CHECK.defined("a=-" + "(1)+".repeat(19) + "(1)");
        CHECK.defined("a=if((1),(2),(" + ones(19) + "))");
        CHECK.test("blanks are no nodes");
        CHECK.defined("a=  - " + " 1  +".repeat(19) + " 1   ");
    }

    private static void depthOfTwenty() {
        CHECK.test("a depth of 20 is allowed");
        CHECK.makes(wrapped(20, "1"), 1);
        CHECK.makes("-".repeat(20) + "1", 1);
        CHECK.makes("-".repeat(19) + "1", -1);
        CHECK.makes("-(".repeat(10) + "1" + ")".repeat(10), 1);
        CHECK.makes(wrapped(19, "min(1,2)"), 1);
        CHECK.makes(wrapped(19, "max(1,2)"), 2);
        CHECK.makes(wrapped(19, "if(0,1,2)"), 2);
        CHECK.makes(wrapped(18, "min(-3,(1))"), -3);
        CHECK.test("a depth of 20 by functions, as far as 40 nodes go");
        CHECK.makes("(" + "max(1,".repeat(19) + "2" + ")".repeat(20), 2);
        CHECK.defined("a=" + "(".repeat(7) + "if(1,2,".repeat(13) + "3" + ")".repeat(20));
    }

    private static void depthOfTwentyOne() {
        CHECK.test("the 21st ( is too deep");
        CHECK.faulty("a=" + wrapped(21, "1"), 22, 3);
        CHECK.faulty("a=" + "(".repeat(21), 22, 3);
        CHECK.faulty("a=" + "-".repeat(20) + "(1)", 22, 3);
        CHECK.faulty("a=" + "-(".repeat(10) + "(1)" + ")".repeat(10), 22, 3);
        CHECK.test("the 21st - before a PART is too deep");
        CHECK.faulty("a=" + "-".repeat(21) + "1", 22, 3);
        CHECK.faulty("a=" + "-".repeat(21), 22, 3);
        CHECK.faulty("a=" + wrapped(20, "-1"), 22, 3);
        CHECK.faulty("a=" + "-(".repeat(10) + "-1" + ")".repeat(10), 22, 3);
        CHECK.faulty("a=" + wrapped(20, "1--1"), 24, 3);
        CHECK.faulty("a=" + wrapped(20, "1*-1"), 24, 3);
        CHECK.test("the ( of a function is too deep, where the function is not");
        CHECK.faulty("a=" + wrapped(20, "min(1,2)"), 25, 3);
        CHECK.faulty("a=" + wrapped(20, "max (1,2)"), 26, 3);
        CHECK.faulty("a=" + wrapped(20, "if(1,2,3)"), 24, 3);
        CHECK.faulty("a=" + "-".repeat(20) + "min(1,2)", 25, 3);
        CHECK.faulty("a=((" + "max(1,".repeat(19) + "2" + ")".repeat(21), 4 + 18 * 6 + 3, 3);
        CHECK.test("too deep in the first, second and third SUM of a function");
        CHECK.faulty("a=" + wrapped(19, "max(-1,2)"), 25, 3);
        CHECK.faulty("a=" + wrapped(19, "max(1,-2)"), 27, 3);
        CHECK.faulty("a=" + wrapped(19, "if((1),2,3)"), 24, 3);
        CHECK.faulty("a=" + wrapped(19, "if(1,(2),3)"), 26, 3);
        CHECK.faulty("a=" + wrapped(19, "if(1,2,(3))"), 28, 3);
    }

    private static void whatIsNotDeep() {
        CHECK.test("a sign between PARTs makes nothing deep");
        CHECK.defined("a=" + wrapped(20, "1-1-1"));
        for (String sign : new String[] {"+", "-", "*", "/"}) {
            CHECK.defined("a=" + wrapped(19, "1" + sign + "(1)"));
            CHECK.defined("a=" + wrapped(19, "1" + sign + "-1"));
        }
        CHECK.test("what is closed, or has had its PART, is not stood in");
        CHECK.defined("a=" + "-".repeat(20) + "1-" + "-".repeat(16) + "1");
        CHECK.defined("a=" + wrapped(20, "1") + "+" + wrapped(20, "1"));
        CHECK.defined("a=" + wrapped(18, "-(1)*-(1)"));
        CHECK.defined("a=" + wrapped(18, "min((1),-1)-(2)"));
        CHECK.faulty("a=" + wrapped(18, "-(1)*--(1)"), 27, 3);
        CHECK.faulty("a=" + wrapped(18, "min((1),-(1))"), 29, 3);
    }

    private static void sixtyFourCells() {
        CHECK.test("there may be 64 cells");
        CHECK.fill(64, "7");
        CHECK.counts(0, 64);
        CHECK.test("a 65th cell is fault 4, at 0");
        CHECK.fill(64, "7");
        CHECK.faulty("n65=1", 0, 4);
        CHECK.faulty("  a=1", 0, 4);
        CHECK.counts(0, 64);
        CHECK.has("n65", -1, 0);
        CHECK.test("with 64 cells each of them may be defined anew");
        CHECK.fill(64, "7");
        CHECK.defined("n1=8");
        CHECK.defined("n64=n1");
        CHECK.defined("n9=z");
        CHECK.counts(0, 64);
        CHECK.test("with 63 cells there is room for just one");
        CHECK.fill(63, "7");
        CHECK.defined("n65=1");
        CHECK.faulty("n64=1", 0, 4);
    }

    private static void roomAgain() {
        CHECK.test("there is room again when one of 64 cells is gone");
        CHECK.fill(64, "7");
        CHECK.removes("n7", true);
        CHECK.defined("new=n64");
        CHECK.faulty("n7=7", 0, 4);
        CHECK.buildsAll(64);
        CHECK.has("new", 1, 7);
    }
}
