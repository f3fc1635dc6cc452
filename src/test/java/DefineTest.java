/** Promises 4 and 5: definitions, and their faults. */
public final class DefineTest {
    private static final Check CHECK = new Check("DefineTest");

    public static void main(String[] args) {
        goodTexts();
        noToken();
        misplaced();
        places();
        tooManyNodes();
        tooDeep();
        firstOfSeveral();
        noRoom();
        circles();
        nothingDefined();
        CHECK.exit();
    }

    private static void goodTexts() {
        CHECK.anew();
        CHECK.defined("a=1");
        CHECK.defined("  a\t=\r\n 1 ");
        CHECK.defined("abcdefgh=123456789");
        CHECK.defined("Z9=000000000");
        CHECK.defined("minx=mi+mini+If+MIN+MAX+iff+max0");
        CHECK.defined("b=min(1,2)+max(3,c)*if(d,e,f)/-(g)---h");
        CHECK.defined("b=if ( 1 , 2 , 3 )");
        CHECK.defined("b=b1+B");
        CHECK.same("count(0)", CHECK.works().count(0), 5);
    }

    private static void noToken() {
        CHECK.anew();
        CHECK.refused("abcdefghi=1", 0, 1);
        CHECK.refused("a=bcdefghij", 2, 1);
        CHECK.refused("a=minminmin", 2, 1);
        CHECK.refused("a=1+1234567890", 4, 1);
        CHECK.refused("a=0000000001", 2, 1);
        CHECK.refused("a=1\0", 3, 1);
        CHECK.refused("a=1 $", 4, 1);
        CHECK.refused("a=1.5", 3, 1);
        CHECK.refused("a_b=1", 1, 1);
        CHECK.refused("\u00e4=1", 0, 1);
        CHECK.refused("a=1\u000b", 3, 1);
        CHECK.refused("a=1\u00a0", 3, 1);
        for (char c : "\1\b\f\16\37!\"#%&':;<>?@[\\]^_`{|}~\177\200\377".toCharArray()) {
            CHECK.refused(c + "a=1", 0, 1);
            if (c == '<') {
                CHECK.anew();
            }
        }
    }

    private static void misplaced() {
        CHECK.anew();
        CHECK.refused("", 0, 2);
        CHECK.refused(" \n ", 3, 2);
        CHECK.refused("a", 1, 2);
        CHECK.refused("a ", 2, 2);
        CHECK.refused("a=", 2, 2);
        CHECK.refused("a=1+ ", 5, 2);
        CHECK.refused("1=1", 0, 2);
        CHECK.refused("if=1", 0, 2);
        CHECK.refused("max=1", 0, 2);
        CHECK.refused("a=1=2", 3, 2);
        CHECK.refused("a==1", 2, 2);
        CHECK.refused("a+1", 1, 2);
        CHECK.refused("a=*1", 2, 2);
        CHECK.refused("a=+1", 2, 2);
        CHECK.refused("a=1+*2", 4, 2);
        CHECK.refused("a=1 2", 4, 2);
        CHECK.refused("a=12b", 4, 2);
        CHECK.refused("a=b(1)", 3, 2);
        CHECK.refused("a=1,2", 3, 2);
        CHECK.refused("a=()", 3, 2);
        CHECK.refused("a=(1,2)", 4, 2);
        CHECK.refused("a=(1", 4, 2);
        CHECK.refused("a=1)", 3, 2);
        CHECK.anew();
        CHECK.refused("a=min 1", 6, 2);
        CHECK.refused("a=min(1)", 7, 2);
        CHECK.refused("a=min(1,2,3)", 9, 2);
        CHECK.refused("a=max(1,2", 9, 2);
        CHECK.refused("a=max(,2)", 6, 2);
        CHECK.refused("a=if(1,2)", 8, 2);
        CHECK.refused("a=if(1,2,3,4)", 10, 2);
        CHECK.refused("a=if(1)", 6, 2);
        CHECK.refused("a=min(min,1)", 9, 2);
        CHECK.refused("a=if", 4, 2);
        CHECK.refused("a=1-", 4, 2);
        CHECK.refused("a=-", 3, 2);
        CHECK.refused("a=min((1,2),3)", 8, 2);
    }

    private static void places() {
        CHECK.anew();
        CHECK.refused("  ab  =  1  2", 12, 2);
        CHECK.refused("  abcdefghi=1", 2, 1);
        CHECK.refused(" a=1+a", 5, 5);
    }

    private static void tooManyNodes() {
        CHECK.anew();
        String ones = "1+".repeat(19) + "1";
        CHECK.defined("a=" + ones);
        CHECK.defined("a=-" + ones);
        CHECK.refused("a=" + ones + "+1", 2 + 40, 3);
        CHECK.refused("a=-" + ones + "+1", 3 + 39, 3);
        CHECK.refused("a=-" + ones + "*1", 3 + 39, 3);
        CHECK.refused("a=" + "1/".repeat(20) + "b", 42, 3);
        CHECK.refused("a=" + "1/".repeat(20) + "-1", 42, 3);
        CHECK.refused("a=" + "1/".repeat(20) + "min(1,2)", 42, 3);
        CHECK.refused("a=" + "1/".repeat(20) + "(1)", 43, 3);
        // Brackets, commas, and what stands before the = are no nodes.
        CHECK.defined("a=min(" + "1+".repeat(18) + "1,((2)))");
        CHECK.refused("a=min(" + "1+".repeat(19) + "1,((2)))", 48, 3);
        CHECK.defined("a=if(1,2," + "1*".repeat(18) + "1)");
        CHECK.refused("a=if(1,2," + "1*".repeat(19) + "1)", 2 + 7 + 37, 3);
    }

    private static void tooDeep() {
        CHECK.anew();
        CHECK.defined("a=" + "(".repeat(20) + "1" + ")".repeat(20));
        CHECK.refused("a=" + "(".repeat(21) + "1" + ")".repeat(21), 22, 3);
        CHECK.defined("a=" + "-".repeat(20) + "1");
        CHECK.refused("a=" + "-".repeat(21) + "1", 22, 3);
        CHECK.defined("a=" + "-(".repeat(10) + "1" + ")".repeat(10));
        CHECK.refused("a=" + "-(".repeat(10) + "-1" + ")".repeat(10), 22, 3);
        CHECK.refused("a=" + "-(".repeat(10) + "(1)" + ")".repeat(10), 22, 3);
        CHECK.defined("a=" + "(".repeat(19) + "min(1,2)-1" + ")".repeat(19));
        CHECK.refused("a=" + "(".repeat(20) + "min(1,2)" + ")".repeat(20), 25, 3);
        CHECK.refused("a=" + "(".repeat(19) + "max(1,-2)" + ")".repeat(19), 27, 3);
        CHECK.refused("a=" + "(".repeat(19) + "if(1,2,(3))" + ")".repeat(19), 28, 3);
        // What is closed, or has had its PART, is no longer stood in; a - between PARTs never is.
        CHECK.defined("a=" + "-".repeat(20) + "1-" + "-".repeat(16) + "1");
        CHECK.defined("a=" + "(".repeat(20) + "1" + ")".repeat(20) + "+" + "(".repeat(20) + "1" + ")".repeat(20));
        CHECK.defined("a=" + "(".repeat(20) + "1-1-1" + ")".repeat(20));
        CHECK.defined("a=" + "(".repeat(18) + "-(1)*-(1)" + ")".repeat(18));
        CHECK.anew();
        CHECK.refused("a=" + "(".repeat(18) + "-(1)*--(1)" + ")".repeat(18), 27, 3);
    }

    private static void firstOfSeveral() {
        CHECK.anew();
        CHECK.refused("a=1 2 $", 4, 2);
        CHECK.refused("a=1 $ 2", 4, 1);
        CHECK.refused("a=1 abcdefghij", 4, 1);
        CHECK.refused("a=" + "1+".repeat(20) + "1 $", 42, 3);
        CHECK.refused("a=" + "1+".repeat(20) + "$", 42, 1);
        CHECK.refused("a=" + "1+".repeat(20) + "*", 42, 2);
        CHECK.refused("a=" + "1+".repeat(20), 42, 2);
        CHECK.refused("a=" + "1+".repeat(19) + "1 $", 42, 1);
        CHECK.refused("a=-" + "1+".repeat(19) + "1 1", 43, 2);
        CHECK.refused("a=" + "(".repeat(20) + "1(", 23, 2);
        CHECK.refused("a=a+", 4, 2);
        CHECK.refused("a=a+$", 4, 1);
        CHECK.refused("a=a" + "+1".repeat(20), 42, 3);
    }

    private static void noRoom() {
        CHECK.anew();
        for (int i = 0; i < 64; i++) {
            CHECK.tape("n" + i + "=" + i);
            CHECK.works().define();
        }
        CHECK.same("count(0)", CHECK.works().count(0), 64);
        CHECK.refused("n64=64", 0, 4);
        CHECK.refused("  n64=64", 0, 4);
        CHECK.refused("n64=n64", 0, 4);
        CHECK.refused("n64=$", 4, 1);
        CHECK.refused("n64=", 4, 2);
        CHECK.defined("n63=n0");
        CHECK.refused("n63=1+n63", 6, 5);
        CHECK.removes("n7", true);
        CHECK.defined("n64=64");
        CHECK.refused("n7=7", 0, 4);
        CHECK.buildsAll(64);
        CHECK.has("n64", 1, 64);
        CHECK.has("n63", 1, 0);
    }

    private static void circles() {
        CHECK.anew();
        CHECK.refused("a=a", 2, 5);
        CHECK.refused("a=1+b*a", 6, 5);
        CHECK.defined("a=b+c");
        CHECK.defined("b=d");
        CHECK.refused("d=x+b+a", 4, 5);
        CHECK.refused("d=x+a+b", 4, 5);
        CHECK.refused("d=if(0,y,min(1,a))", 15, 5);
        CHECK.refused("c=a", 2, 5);
        CHECK.defined("c=b");
        CHECK.refused("b=c", 2, 5);
        // Defined anew, the cell's old formula does not count.
        CHECK.defined("b=1");
        CHECK.defined("d=b+a");
        CHECK.refused("b=1+d", 4, 5);
        // A cell that is there no more joins nothing, but its name stands on in the formulas.
        CHECK.removes("a", true);
        CHECK.defined("b=a+1");
        CHECK.refused("a=2*d", 4, 5);
        CHECK.refused("a=2*b", 4, 5);
        CHECK.defined("a=x");
        CHECK.refused("x=d", 2, 5);
    }

    private static void nothingDefined() {
        CHECK.anew();
        CHECK.defined("a=1");
        CHECK.builds("a", 1);
        CHECK.refused("a=2+", 4, 2);
        CHECK.has("a", 1, 1);
        CHECK.refused("a=b+a", 4, 5);
        CHECK.has("a", 1, 1);
        CHECK.isRead("b", 0, 0);
        CHECK.refused("b=a+$", 4, 1);
        CHECK.has("b", -1, 0);
        CHECK.isRead("a", 0, 0);
        CHECK.same("fault() is kept by other calls", CHECK.works().fault(), 1);
        CHECK.buildsAll(0);
        CHECK.same("fault() is kept by buildAll()", CHECK.works().fault(), 1);
        CHECK.defined("b=a");
        CHECK.same("fault() after a definition", CHECK.works().fault(), 0);
    }
}
