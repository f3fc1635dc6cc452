import java.util.NoSuchElementException;

/** Promises 6 to 13: cells removed, built, looked at and counted. */
public final class BuildTest {
    private static final Check CHECK = new Check("BuildTest");

    public static void main(String[] args) {
        tapeIsNoName();
        blanksRoundName();
        values();
        errors();
        firstError();
        states();
        staleness();
        staleInBranchNotTaken();
        backToTheSameResult();
        removing();
        buildingOne();
        buildingAll();
        longChain();
        readers();
        orderOfBuilt();
        edgesOfBuilt();
        counts();
        CHECK.exit();
    }

    private static void tapeIsNoName() {
        CHECK.anew();
        CHECK.defined("a=1");
        CHECK.buildsAll(1);
        for (String text : new String[] {"", " ", "1", "a b", "a=1", "min", "max", "if", "abcdefghi", "a$", "$", "a1,",
            "-a", "(a)", "a\0"}) {
            CHECK.tape(text);
            throwsOnTape(text, CHECK.works());
            CHECK.same("count(2) after calls that threw", CHECK.works().count(2), text.length());
            CHECK.same("count(4) after calls that threw", CHECK.works().count(4), 1);
        }
        CHECK.same("count(0) after calls that threw", CHECK.works().count(0), 1);
    }

    private static void throwsOnTape(String text, CellWorks x) {
        Class<NoSuchElementException> due = NoSuchElementException.class;
        CHECK.isThrown("remove() of '" + text + "'", due, () -> x.remove() ? 1 : 0);
        CHECK.isThrown("build() of '" + text + "'", due, x::build);
        CHECK.isThrown("value() of '" + text + "'", due, x::value);
        CHECK.isThrown("state() of '" + text + "'", due, x::state);
        CHECK.isThrown("readers(false) of '" + text + "'", due, () -> x.readers(false));
        CHECK.isThrown("readers(true) of '" + text + "'", due, () -> x.readers(true));
    }

    private static void blanksRoundName() {
        CHECK.anew();
        CHECK.defined("a=5");
        CHECK.defined("b=a");
        CHECK.builds("\t a \r\n", 1);
        CHECK.has(" a", 1, 5);
        CHECK.isRead("a ", 1, 1);
        CHECK.removes(" a ", true);
    }

    private static void values() {
        CHECK.anew();
        CHECK.makes("0", 0);
        CHECK.makes("999999999", 999999999);
        CHECK.makes("000000012", 12);
        CHECK.makes("1+2*3", 7);
        CHECK.makes("(1+2)*3", 9);
        CHECK.makes("10-3-2", 5);
        CHECK.makes("100/5/2", 10);
        CHECK.makes("100/5*2", 40);
        CHECK.makes("2*7/3", 4);
        CHECK.makes("7/2", 3);
        CHECK.makes("-7/2", -3);
        CHECK.makes("7/-2", -3);
        CHECK.makes("-7/-2", 3);
        CHECK.makes("1--1", 2);
        CHECK.makes("--5", 5);
        CHECK.makes("-(2+3)*2", -10);
        CHECK.anew();
        CHECK.makes("min(3,-4)+max(3,-4)*10", 26);
        CHECK.makes("min(2,2)-max(2,2)", 0);
        CHECK.makes("if(1,2,3)", 2);
        CHECK.makes("if(0,2,3)", 3);
        CHECK.makes("if(-1,2,3)", 3);
        CHECK.makes("1+if(2-1,if(0,5,6),7)*10", 61);
        CHECK.makes("1+if(1-1,if(0,5,6),7)*10-if(1,2,3)", 69);
        CHECK.makes("if(if(0,1,2),if(0,3,4),if(0,5,6))", 4);
        CHECK.makes("if(1,1/1,1/0)", 1);
        CHECK.makes("if(0,1/0+x,7)", 7);
        CHECK.makes("999999999*999999999*999999999", 8515845249265065471L);
        CHECK.anew();
        CHECK.defined("p=65536*65536");
        CHECK.defined("least=p*p/2");
        CHECK.builds("least", 2);
        CHECK.defined("h=p*32768*65536");
        CHECK.builds("h", 1);
        CHECK.has("h", 1, Long.MIN_VALUE);
        CHECK.defined("most=h-1");
        CHECK.builds("most", 1);
        CHECK.has("most", 1, Long.MAX_VALUE);
        CHECK.defined("w=h/-1");
        CHECK.builds("w", 1);
        CHECK.has("w", 1, Long.MIN_VALUE);
        CHECK.defined("v=-h");
        CHECK.builds("v", 1);
        CHECK.has("v", 1, Long.MIN_VALUE);
        CHECK.defined("u=min(h,most)/max(h,most)");
        CHECK.builds("u", 1);
        CHECK.has("u", 1, -1);
    }

    private static void errors() {
        CHECK.anew();
        CHECK.fails("1/0", 2);
        CHECK.fails("0/0", 2);
        CHECK.fails("1/(2-2)", 2);
        CHECK.fails("x", 3);
        CHECK.fails("-x", 3);
        CHECK.fails("0*x", 3);
        CHECK.fails("if(x,1,2)", 3);
        CHECK.fails("if(1/0,1,2)", 2);
        CHECK.fails("min(1,x)", 3);
        CHECK.defined("e=1/0");
        CHECK.defined("f=e");
        CHECK.defined("g=f+1");
        CHECK.builds("g", 3);
        CHECK.has("e", 2, 0);
        CHECK.has("f", 3, 0);
        CHECK.has("g", 3, 0);
    }

    private static void firstError() {
        CHECK.anew();
        CHECK.fails("1/0+x", 2);
        CHECK.fails("x+1/0", 3);
        CHECK.fails("1/0*x", 2);
        CHECK.fails("1*x/0", 3);
        CHECK.fails("1/x/0", 3);
        CHECK.fails("min(1/0,x)", 2);
        CHECK.fails("max(x,1/0)", 3);
        CHECK.fails("1+(2*(3/0))-x", 2);
        CHECK.fails("if(1,x,1/0)", 3);
        CHECK.fails("if(0,x,1/0)", 2);
    }

    private static void states() {
        CHECK.anew();
        CHECK.has("a", -1, 0);
        CHECK.defined("a=1");
        CHECK.has("a", 4, 0);
        CHECK.buildsAll(1);
        CHECK.has("a", 1, 1);
        CHECK.defined("a=1/0");
        CHECK.has("a", 5, 1);
        CHECK.buildsAll(1);
        CHECK.has("a", 2, 0);
        CHECK.defined("a=b");
        CHECK.has("a", 6, 0);
        CHECK.buildsAll(1);
        CHECK.has("a", 3, 0);
        CHECK.defined("b=1");
        CHECK.has("a", 3, 0);
        CHECK.builds("b", 1);
        CHECK.has("a", 7, 0);
        CHECK.buildsAll(1);
        CHECK.has("a", 1, 1);
        CHECK.has("A", -1, 0);
        CHECK.has("b", 1, 1);
        CHECK.has("b0", -1, 0);
    }

    private static void staleness() {
        CHECK.anew();
        CHECK.defined("a=1");
        CHECK.defined("b=a+1");
        CHECK.defined("c=b/100");
        CHECK.buildsAll(3);
        CHECK.defined("a=2");
        CHECK.has("b", 1, 2);
        CHECK.same("count(1): just what was defined anew", CHECK.works().count(1), 1);
        CHECK.builds("a", 1);
        CHECK.has("b", 5, 2);
        CHECK.has("c", 1, 0);
        CHECK.same("count(1): just what reads it", CHECK.works().count(1), 1);
        // b has another value, c reads b and is worked out, but its own value stays.
        CHECK.defined("d=c");
        CHECK.builds("d", 3);
        CHECK.worked("b c d");
        CHECK.defined("a=3");
        CHECK.builds("d", 3);
        CHECK.worked("a b c");
        CHECK.defined("a=3");
        CHECK.buildsAll(1);
        CHECK.worked("a");
        CHECK.buildsAll(0);
    }

    private static void staleInBranchNotTaken() {
        CHECK.anew();
        CHECK.defined("a=if(1,5,b)");
        CHECK.buildsAll(1);
        CHECK.has("a", 1, 5);
        CHECK.defined("b=1/0");
        CHECK.has("a", 1, 5);
        // The cell of the name in the other branch is built all the same.
        CHECK.builds("a", 2);
        CHECK.worked("a b");
        CHECK.has("a", 1, 5);
        CHECK.has("b", 2, 0);
        CHECK.removes("b", true);
        CHECK.has("a", 5, 5);
    }

    private static void backToTheSameResult() {
        CHECK.anew();
        CHECK.defined("a=1");
        CHECK.defined("b=a");
        CHECK.buildsAll(2);
        CHECK.defined("a=2");
        CHECK.builds("a", 1);
        CHECK.has("b", 5, 1);
        CHECK.defined("a=1");
        CHECK.builds("a", 1);
        CHECK.has("b", 1, 1);
        CHECK.removes("a", true);
        CHECK.has("b", 5, 1);
        CHECK.defined("a=1");
        CHECK.has("b", 5, 1);
        CHECK.has("a", 4, 0);
        CHECK.builds("b", 1);
        CHECK.worked("a");
        // A value 0 is another result than NOTHING, and than an ERROR.
        CHECK.defined("a=0");
        CHECK.builds("b", 2);
        CHECK.removes("a", true);
        CHECK.has("b", 5, 0);
        CHECK.builds("b", 1);
        CHECK.has("b", 3, 0);
        CHECK.defined("a=1/0");
        CHECK.builds("b", 2);
        CHECK.has("b", 3, 0);
        CHECK.defined("a=x");
        CHECK.builds("b", 2);
        CHECK.worked("a b");
        CHECK.has("b", 3, 0);
    }

    private static void removing() {
        CHECK.anew();
        CHECK.removes("a", false);
        CHECK.defined("a=1");
        CHECK.defined("b=a");
        CHECK.defined("c=b");
        CHECK.buildsAll(3);
        CHECK.removes("b0", false);
        CHECK.removes("b", true);
        CHECK.removes("b", false);
        CHECK.has("b", -1, 0);
        CHECK.has("c", 5, 1);
        CHECK.has("a", 1, 1);
        CHECK.same("count(0)", CHECK.works().count(0), 2);
        CHECK.builds("c", 1);
        CHECK.has("c", 3, 0);
        CHECK.defined("b=a+1");
        CHECK.has("b", 4, 0);
        CHECK.builds("c", 2);
        CHECK.has("c", 1, 2);
        CHECK.removes("a", true);
        CHECK.removes("b", true);
        CHECK.removes("c", true);
        CHECK.same("count(0)", CHECK.works().count(0), 0);
        CHECK.worked("b c");
    }

    private static void buildingOne() {
        CHECK.anew();
        CHECK.defined("top=left+right");
        CHECK.defined("left=base*2");
        CHECK.defined("right=base*3");
        CHECK.defined("aside=base");
        CHECK.defined("over=top");
        CHECK.defined("base=10");
        CHECK.builds("top", 4);
        CHECK.worked("base left right top");
        CHECK.has("top", 1, 50);
        CHECK.has("aside", 4, 0);
        CHECK.has("over", 4, 0);
        CHECK.builds("top", 0);
        CHECK.same("count(4) of a build without work", CHECK.works().count(4), 0);
        CHECK.builds("base", 0);
        CHECK.builds("over", 1);
        CHECK.builds("none", -1);
        CHECK.same("count(4) of a build without a cell", CHECK.works().count(4), 0);
        CHECK.isThrown("built(0, 0) then", IndexOutOfBoundsException.class, () -> CHECK.works().built(0, 0));
        CHECK.same("count(3)", CHECK.works().count(3), 5);
        CHECK.same("count(1)", CHECK.works().count(1), 1);
    }

    private static void buildingAll() {
        CHECK.anew();
        CHECK.defined("d=c+1");
        CHECK.defined("c=b+1");
        CHECK.defined("b=a+1");
        CHECK.defined("a=1");
        CHECK.defined("z=1/0");
        CHECK.tape("kept");
        CHECK.buildsAll(5);
        CHECK.same("count(2) after buildAll()", CHECK.works().count(2), 4);
        CHECK.worked("a b c d z");
        CHECK.has("d", 1, 4);
        CHECK.buildsAll(0);
        CHECK.same("count(3)", CHECK.works().count(3), 5);
        CHECK.defined("a=2");
        CHECK.buildsAll(4);
        CHECK.worked("a b c d");
        CHECK.same("count(3)", CHECK.works().count(3), 9);
    }

    private static void longChain() {
        CHECK.anew();
        CellWorks x = CHECK.works();
        for (int i = 0; i < 64; i++) {
            CHECK.tape("n" + (99 - i) + "=n" + (100 - i) + "+1");
            x.define();
        }
        CHECK.defined("n99=0");
        CHECK.builds("n36", 64);
        CHECK.has("n36", 1, 63);
        CHECK.isRead("n99", 1, 63);
        CHECK.isRead("n100", 0, 0);
        CHECK.refused("n99=n36", 4, 5);
        CHECK.defined("n99=1");
        CHECK.buildsAll(64);
        CHECK.has("n36", 1, 64);
        CHECK.same("count(3)", x.count(3), 128);
    }

    private static void readers() {
        CHECK.anew();
        CHECK.isRead("a", 0, 0);
        CHECK.defined("b=a*a+a");
        CHECK.isRead("a", 1, 1);
        CHECK.isRead("b", 0, 0);
        CHECK.defined("c=b+1");
        CHECK.defined("d=if(0,a,c)");
        CHECK.isRead("a", 2, 3);
        CHECK.isRead("b", 1, 2);
        CHECK.isRead("c", 1, 1);
        CHECK.isRead("d", 0, 0);
        CHECK.defined("a=x");
        CHECK.isRead("x", 1, 4);
        CHECK.isRead("a", 2, 3);
        CHECK.removes("b", true);
        CHECK.isRead("b", 1, 2);
        CHECK.isRead("a", 1, 1);
        CHECK.defined("d=1");
        CHECK.isRead("a", 0, 0);
        CHECK.isRead("x", 1, 1);
    }

    private static void orderOfBuilt() {
        CHECK.anew();
        String[] names = {"b", "ab", "a", "abcdefgh", "abcdefg", "a0", "aA", "Z", "A9", "A", "z9z9z9z9", "aa"};
        for (String name : names) {
            CHECK.defined(name + "=1");
        }
        CHECK.buildsAll(names.length);
        CHECK.worked("A A9 Z a a0 aA aa ab abcdefg abcdefgh b z9z9z9z9");
        CHECK.defined("abcdefgh=2");
        CHECK.defined("A=b");
        CHECK.buildsAll(2);
        CHECK.worked("A abcdefgh");
    }

    private static void edgesOfBuilt() {
        CHECK.anew();
        CHECK.defined("abcdefgh=1");
        CHECK.defined("b=1");
        CHECK.buildsAll(2);
        CellWorks x = CHECK.works();
        CHECK.same("built(0, 0)", x.built(0, 0), 'a');
        CHECK.same("built(0, 7)", x.built(0, 7), 'h');
        CHECK.same("built(1, 0)", x.built(1, 0), 'b');
        int[][] edges = {{0, 8}, {0, -1}, {1, 1}, {1, -1}, {2, 0}, {-1, 0}, {0, Integer.MAX_VALUE}, {64, 0},
            {0, Integer.MIN_VALUE}, {Integer.MAX_VALUE, 0}, {Integer.MIN_VALUE, 0}, {-1, -1}};
        for (int[] edge : edges) {
            CHECK.isThrown("built(" + edge[0] + ", " + edge[1] + ")", IndexOutOfBoundsException.class,
                    () -> x.built(edge[0], edge[1]));
        }
        // What was worked out stays told when its cell is gone, or another one comes.
        CHECK.removes("abcdefgh", true);
        CHECK.defined("a=1");
        CHECK.worked("abcdefgh b");
        CHECK.builds("b", 0);
        CHECK.worked("");
    }

    private static void counts() {
        CHECK.anew();
        CellWorks x = CHECK.works();
        CHECK.isThrown("count(-1)", IllegalArgumentException.class, () -> x.count(-1));
        CHECK.isThrown("count(5)", IllegalArgumentException.class, () -> x.count(5));
        CHECK.isThrown("count(least)", IllegalArgumentException.class, () -> x.count(Integer.MIN_VALUE));
        CHECK.isThrown("count(most)", IllegalArgumentException.class, () -> x.count(Integer.MAX_VALUE));
        CHECK.defined("a=1");
        CHECK.defined("b=a");
        CHECK.defined("a=2");
        CHECK.tape("abc");
        CHECK.same("count(0)", x.count(0), 2);
        CHECK.same("count(1)", x.count(1), 2);
        CHECK.same("count(2)", x.count(2), 3);
        CHECK.same("count(3)", x.count(3), 0);
        CHECK.same("count(4)", x.count(4), 0);
        CHECK.builds("a", 1);
        CHECK.buildsAll(1);
        CHECK.defined("a=3");
        CHECK.buildsAll(2);
        CHECK.same("count(1)", x.count(1), 0);
        CHECK.same("count(3)", x.count(3), 4);
        CHECK.same("count(4)", x.count(4), 2);
        CHECK.removes("a", true);
        CHECK.same("count(0)", x.count(0), 1);
        CHECK.same("count(1)", x.count(1), 1);
        CHECK.same("count(3)", x.count(3), 4);
        CHECK.same("count(4)", x.count(4), 2);
    }
}
