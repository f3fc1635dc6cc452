/** Promise 4: define, and of 'Terms' which of several faults is told, and circles. */
public final class Promise04FaultsTest {
    private static final Check CHECK = new Check("Promise 4 (define: faults)");

    public static void main(String[] args) {
        places();
        firstOnTheTape();
        oneTwoAndThreeBeforeFour();
        oneTwoAndThreeBeforeFive();
        fourBeforeFive();
        itself();
        oneThatDepends();
        overManyCells();
        firstName();
        noCircle();
        namesWithoutCells();
        CHECK.exit();
    }

    private static String ones(int n) {
        return "1+".repeat(n - 1) + "1";
    }

    private static void places() {
        CHECK.test("a fault stands at the first byte of a token");
        CHECK.faulty("  ab  =  1  23", 12, 2);
        CHECK.faulty("  ab  =  1  cde", 12, 2);
        CHECK.faulty("  ab  =  1  $$$", 12, 1);
        CHECK.faulty(" \t\nabcdefghi = 1", 3, 1);
        CHECK.faulty("a = 1 \r\n + a", 11, 5);
    }

    private static void firstOnTheTape() {
        CHECK.test("1 before 2, and 2 before 1, as they stand on the tape");
        CHECK.faulty("a=1 $ 2", 4, 1);
        CHECK.faulty("a=1 2 $", 4, 2);
        CHECK.faulty("a=1+ abcdefghi )", 5, 1);
        CHECK.faulty("a=1+ ) abcdefghi", 5, 2);
        CHECK.faulty("1=$", 0, 2);
        CHECK.faulty("$=1=", 0, 1);
        CHECK.test("1 before 3, and 3 before 1, as they stand on the tape");
        CHECK.faulty("a=" + ones(20) + "$+1", 41, 1);
        CHECK.faulty("a=" + ones(21) + " $", 42, 3);
        CHECK.faulty("a=" + "(".repeat(20) + "$(", 22, 1);
        CHECK.faulty("a=" + "(".repeat(21) + "$", 22, 3);
        CHECK.faulty("a=" + ones(21) + " abcdefghi", 42, 3);
        CHECK.test("2 before 3, and 3 before 2, as they stand on the tape");
        CHECK.faulty("a=" + ones(20) + " 1+1", 42, 2);
        CHECK.faulty("a=" + ones(21) + " 1", 42, 3);
        CHECK.faulty("a=" + "(".repeat(20) + ")(", 22, 2);
        CHECK.faulty("a=" + "(".repeat(21) + ")", 22, 3);
        CHECK.faulty("a=(" + ones(21), 43, 3);
        CHECK.test("what can't stand there is no node, and nothing deep");
        CHECK.faulty("a=-" + ones(20) + " 1", 43, 2);
        CHECK.faulty("a=-" + ones(20) + " b", 43, 2);
        CHECK.faulty("a=" + ones(20) + "+*", 42, 2);
        CHECK.faulty("a=" + ones(20) + "+", 42, 2);
        CHECK.faulty("a=" + "(".repeat(20) + "1(", 23, 2);
        CHECK.faulty("a=" + ones(20) + "+$", 42, 1);
        CHECK.faulty("a=" + ones(20) + "+1234567890", 42, 1);
    }

    private static void oneTwoAndThreeBeforeFour() {
        CHECK.test("1, 2 and 3 are told before 4");
        CHECK.fill(64, "7");
        CHECK.faulty("new=$", 4, 1);
        CHECK.faulty("new=", 4, 2);
        CHECK.faulty("new=" + "-".repeat(21) + "1", 24, 3);
        CHECK.faulty("new=" + "-".repeat(20) + "1", 0, 4);
    }

    private static void oneTwoAndThreeBeforeFive() {
        CHECK.test("1, 2 and 3 are told before 5");
        CHECK.faulty("a=a+$", 4, 1);
        CHECK.faulty("a=a+", 4, 2);
        CHECK.faulty("a=a+" + ones(20), 42, 3);
        CHECK.faulty("a=a+1", 2, 5);
    }

    private static void fourBeforeFive() {
        CHECK.test("4 is told before 5");
        CHECK.fill(64, "new");
        CHECK.faulty("new=new", 0, 4);
        CHECK.faulty("new=1+n1", 0, 4);
        CHECK.faulty("n1=1+n1", 5, 5);
        CHECK.removes("n1", true);
        CHECK.faulty("new=1+new", 6, 5);
        CHECK.faulty("new=1+n2", 6, 5);
        CHECK.defined("new=1+n1");
    }

    private static void itself() {
        CHECK.test("a cell that reads itself is fault 5");
        CHECK.faulty("a=a", 2, 5);
        CHECK.faulty("a=1+b*a", 6, 5);
        CHECK.faulty("a=if(0,a,1)", 7, 5);
        CHECK.faulty("a=0*(-a)", 6, 5);
        CHECK.faulty("abcdefgh=abcdefgh", 9, 5);
        CHECK.test("also one that is there already");
        CHECK.defined("a=1");
        CHECK.faulty("a=2+a", 4, 5);
        CHECK.test("a name that is nearly the cell's own is none of these");
        CHECK.defined("a=A+aa+a0");
        CHECK.defined("abcdefgh=abcdefg");
        CHECK.defined("Abcdefgh=abcdefgh+abcdefgi");
    }

    private static void oneThatDepends() {
        CHECK.test("a name of a cell that depends on the cell is fault 5");
        CHECK.defined("b=a");
        CHECK.faulty("a=b", 2, 5);
        CHECK.defined("c=1+b");
        CHECK.faulty("a=c", 2, 5);
        CHECK.faulty("a=2*(x+c)", 7, 5);
        CHECK.defined("a=x");
        CHECK.faulty("a=c", 2, 5);
        CHECK.faulty("x=if(0,1,c)", 9, 5);
        CHECK.test("also by a name in the branch that is not taken");
        CHECK.defined("b=if(1,2,a)");
        CHECK.buildsAll(1);
        CHECK.faulty("a=b", 2, 5);
    }

    private static void overManyCells() {
        CHECK.test("a circle over all 64 cells is fault 5");
        for (int i = 1; i < 64; i++) {
            CHECK.tape("n" + i + "=n" + (i + 1));
            CHECK.answers("define() of cell " + i, -1, CellWorks::define);
        }
        CHECK.faulty("n64=1+n1", 6, 5);
        CHECK.faulty("n64=1+n63", 6, 5);
        CHECK.faulty("n64=n65+n30", 8, 5);
        CHECK.defined("n64=n65");
        CHECK.faulty("n65=n64", 0, 4);
        CHECK.test("and the other way round");
        for (int i = 64; i > 1; i--) {
            CHECK.tape("n" + i + "=n" + (i - 1));
            CHECK.answers("define() of cell " + i, -1, CellWorks::define);
        }
        CHECK.faulty("n1=n64", 3, 5);
        CHECK.defined("n1=n65");
    }

    private static void firstName() {
        CHECK.test("the fault is at the first such NAME of the formula");
        CHECK.defined("b=a");
        CHECK.defined("c=b");
        CHECK.defined("y=1");
        CHECK.faulty("a=c+b+a", 2, 5);
        CHECK.faulty("a=x+b+c", 4, 5);
        CHECK.faulty("a=x+y*(a-c)", 7, 5);
        CHECK.faulty("a=y+y+y+min(y,c)+a", 14, 5);
        CHECK.test("the 20th NAME is the first such one");
        CHECK.faulty("a=" + "b+".repeat(19) + "a", 40, 5);
        CHECK.faulty("a=-" + "b+".repeat(19) + "a", 41, 5);
    }

    private static void noCircle() {
        CHECK.test("what the cell itself depends on is no circle");
        CHECK.defined("a=b+c");
        CHECK.defined("b=c+d");
        CHECK.defined("c=d+d");
        CHECK.defined("a=b*c*d");
        CHECK.defined("d=e");
        CHECK.test("the cell's old formula makes no circle");
        CHECK.defined("a=b");
        CHECK.defined("a=1");
        CHECK.defined("b=a");
        CHECK.defined("c=b");
        CHECK.defined("b=2");
        CHECK.defined("a=c");
        CHECK.faulty("b=a", 2, 5);
        CHECK.test("a refused formula makes no circle");
        CHECK.faulty("a=b+", 4, 2);
        CHECK.faulty("a=a+b", 2, 5);
        CHECK.defined("b=a");
    }

    private static void namesWithoutCells() {
        CHECK.test("a cell that is gone joins nothing, but its name stands on in the formulas");
        CHECK.defined("c=b");
        CHECK.defined("b=a");
        CHECK.faulty("a=c", 2, 5);
        CHECK.removes("b", true);
        CHECK.defined("a=c");
        CHECK.faulty("b=a", 2, 5);
        CHECK.faulty("b=c", 2, 5);
        CHECK.removes("c", true);
        CHECK.defined("b=a");
    }
}
