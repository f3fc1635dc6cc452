/** Promise 12: built. */
public final class Promise12Test {
    private static final Check CHECK = new Check("Promise 12 (built)");

    public static void main(String[] args) {
        bytes();
        noSuchName();
        noSuchByte();
        order();
        latest();
        withoutWork();
        refusedBuild();
        sixtyFour();
        CHECK.exit();
    }

    private static void hasByte(int i, int k, int due) {
        CHECK.answers("built(" + i + ", " + k + ")", due, x -> x.built(i, k));
    }

    private static void hasNot(int i, int k) {
        CHECK.refuses("built(" + i + ", " + k + ")", IndexOutOfBoundsException.class, x -> x.built(i, k));
    }

    private static void bytes() {
        CHECK.test("byte k of name i");
        CHECK.defined("aBcdefg9=1");
        CHECK.defined("b=1");
        CHECK.buildsAll(2);
        String name = "aBcdefg9";
        for (int k = 0; k < 8; k++) {
            hasByte(0, k, name.charAt(k));
        }
        hasByte(1, 0, 'b');
    }

    private static void noSuchName() {
        CHECK.test("there is no such name");
        CHECK.defined("a=1");
        CHECK.defined("b=1");
        CHECK.defined("c=1");
        CHECK.builds("c", 1);
        hasNot(1, 0);
        CHECK.buildsAll(2);
        hasByte(1, 0, 'b');
        hasNot(2, 0);
        hasNot(-1, 0);
        hasNot(63, 0);
        hasNot(64, 0);
        hasNot(Integer.MAX_VALUE, 0);
        hasNot(Integer.MIN_VALUE, 0);
        hasNot(-1, -1);
        hasNot(2, 1);
    }

    private static void noSuchByte() {
        CHECK.test("there is no such byte");
        CHECK.defined("abcdefgh=1");
        CHECK.defined("b=1");
        CHECK.defined("cd=1");
        CHECK.buildsAll(3);
        hasByte(0, 7, 'h');
        hasNot(0, 8);
        hasNot(0, 9);
        hasByte(1, 0, 'b');
        hasNot(1, 1);
        hasNot(1, 7);
        hasByte(2, 1, 'd');
        hasNot(2, 2);
        for (int i = 0; i < 3; i++) {
            hasNot(i, -1);
            hasNot(i, -8);
            hasNot(i, 64);
            hasNot(i, Integer.MAX_VALUE);
            hasNot(i, Integer.MIN_VALUE);
        }
    }

    private static void order() {
        CHECK.test("in the order of names, byte by byte, a beginning before what goes on");
        for (String name : "b ab a abcdefgh abcdefg a0 aA Z A9 A z9z9z9z9 aa".split(" ")) {
            CHECK.defined(name + "=1");
        }
        CHECK.buildsAll(12);
        CHECK.worked("A A9 Z a a0 aA aa ab abcdefg abcdefgh b z9z9z9z9");
        CHECK.test("in the order of names, not in that of the work");
        CHECK.defined("a=b");
        CHECK.defined("b=c");
        CHECK.defined("c=1");
        CHECK.builds("a", 3);
        CHECK.worked("a b c");
        CHECK.test("the eighth byte counts, too");
        CHECK.defined("aaaaaaab=1");
        CHECK.defined("aaaaaaaZ=1");
        CHECK.defined("aaaaaaaa=1");
        CHECK.defined("aaaaaaa9=1");
        CHECK.buildsAll(4);
        CHECK.worked("aaaaaaa9 aaaaaaaZ aaaaaaaa aaaaaaab");
    }

    private static void latest() {
        CHECK.test("those that the latest build() or buildAll() worked out");
        CHECK.defined("a=1");
        CHECK.defined("b=a");
        CHECK.defined("c=1");
        CHECK.builds("b", 2);
        CHECK.worked("a b");
        CHECK.buildsAll(1);
        CHECK.worked("c");
        CHECK.defined("a=2");
        CHECK.buildsAll(2);
        CHECK.worked("a b");
        CHECK.defined("c=2");
        CHECK.builds("c", 1);
        CHECK.worked("c");
        CHECK.test("no other call changes them");
        CHECK.defined("a=1");
        CHECK.defined("b=1");
        CHECK.buildsAll(2);
        CHECK.defined("A=1");
        CHECK.defined("b=2");
        CHECK.faulty("a=", 2, 2);
        CHECK.removes("a", true);
        CHECK.has("b", 5, 1);
        CHECK.worked("a b");
    }

    private static void withoutWork() {
        CHECK.test("none before the first build()");
        CHECK.defined("a=1");
        hasNot(0, 0);
        CHECK.test("none after a build() without work");
        CHECK.defined("a=1");
        CHECK.buildsAll(1);
        CHECK.builds("a", 0);
        hasNot(0, 0);
        CHECK.test("none after a buildAll() without work");
        CHECK.defined("a=1");
        CHECK.builds("a", 1);
        CHECK.buildsAll(0);
        hasNot(0, 0);
        CHECK.test("none after a build() without a cell");
        CHECK.defined("a=1");
        CHECK.builds("a", 1);
        CHECK.builds("b", -1);
        hasNot(0, 0);
        CHECK.counts(4, 0);
    }

    private static void refusedBuild() {
        CHECK.test("a build() that throws is not the latest one");
        CHECK.defined("a=1");
        CHECK.builds("a", 1);
        CHECK.tape("a a");
        CHECK.refuses("build() of 'a a'", java.util.NoSuchElementException.class, CellWorks::build);
        CHECK.worked("a");
    }

    private static void sixtyFour() {
        CHECK.test("64 names, and no 65th");
        CHECK.fill(64, "1");
        CHECK.buildsAll(64);
        hasByte(0, 0, 'n');
        hasByte(0, 1, '1');
        hasNot(0, 2);
        hasByte(63, 0, 'n');
        hasByte(63, 1, '9');
        hasNot(63, 2);
        hasByte(60, 2, '4');
        hasNot(64, 0);
    }
}
