/** Promise 13: count. */
public final class Promise13Test {
    private static final Check CHECK = new Check("Promise 13 (count)");

    public static void main(String[] args) {
        noneOfThese();
        cells();
        staleOnes();
        bytesOnTheTape();
        workedOutInAll();
        workedOutLatest();
        fullObject();
        CHECK.exit();
    }

    private static void noneOfThese() {
        CHECK.test("what is none of 0 to 4");
        CHECK.defined("a=1");
        CHECK.defined("b=a");
        CHECK.builds("a", 1);
        CHECK.tape("abc");
        for (int what : new int[] {-1, 5, 6, -2, 256, -256, 64, Integer.MIN_VALUE, Integer.MAX_VALUE}) {
            CHECK.refuses("count(" + what + ")", IllegalArgumentException.class, x -> x.count(what));
        }
        CHECK.counts(0, 2);
        CHECK.counts(1, 1);
        CHECK.counts(2, 3);
        CHECK.counts(3, 1);
        CHECK.counts(4, 1);
    }

    private static void cells() {
        CHECK.test("0: cells");
        CHECK.counts(0, 0);
        CHECK.defined("a=x+y");
        CHECK.counts(0, 1);
        CHECK.defined("a=1");
        CHECK.counts(0, 1);
        CHECK.faulty("b=b", 2, 5);
        CHECK.counts(0, 1);
        CHECK.defined("b=1");
        CHECK.counts(0, 2);
        CHECK.removes("a", true);
        CHECK.counts(0, 1);
        CHECK.removes("a", false);
        CHECK.counts(0, 1);
        CHECK.removes("b", true);
        CHECK.counts(0, 0);
    }

    private static void staleOnes() {
        CHECK.test("1: stale ones");
        CHECK.counts(1, 0);
        CHECK.defined("a=1");
        CHECK.defined("b=a");
        CHECK.counts(1, 2);
        CHECK.builds("a", 1);
        CHECK.counts(1, 1);
        CHECK.buildsAll(1);
        CHECK.counts(1, 0);
        CHECK.defined("a=2");
        CHECK.counts(1, 1);
        CHECK.builds("a", 1);
        CHECK.counts(1, 1);
        CHECK.removes("a", true);
        CHECK.counts(1, 1);
        CHECK.removes("b", true);
        CHECK.counts(1, 0);
    }

    private static void bytesOnTheTape() {
        CHECK.test("2: bytes on the tape");
        CHECK.counts(2, 0);
        CHECK.feedsOnly(20, 0);
        CHECK.counts(2, 20);
        CHECK.ends(19);
        CHECK.counts(2, 19);
        CHECK.ends(0);
        CHECK.counts(2, 0);
        for (int n = 1; n <= 100; n++) {
            CHECK.feedsOnly(20 * n, 0);
        }
        CHECK.counts(2, 2000);
    }

    private static void workedOutInAll() {
        CHECK.test("3: cells that were worked out in all, each time that it was");
        CHECK.defined("a=1");
        CHECK.defined("b=a");
        CHECK.counts(3, 0);
        CHECK.builds("b", 2);
        CHECK.counts(3, 2);
        CHECK.buildsAll(0);
        CHECK.counts(3, 2);
        CHECK.defined("a=2");
        CHECK.buildsAll(2);
        CHECK.counts(3, 4);
        CHECK.removes("a", true);
        CHECK.counts(3, 4);
        CHECK.builds("b", 1);
        CHECK.counts(3, 5);
        CHECK.builds("a", -1);
        CHECK.counts(3, 5);
    }

    private static void workedOutLatest() {
        CHECK.test("4: in the latest build() or buildAll()");
        CHECK.defined("a=1");
        CHECK.defined("b=a");
        CHECK.defined("c=1");
        CHECK.counts(4, 0);
        CHECK.builds("b", 2);
        CHECK.counts(4, 2);
        CHECK.defined("d=1");
        CHECK.removes("b", true);
        CHECK.counts(4, 2);
        CHECK.buildsAll(2);
        CHECK.counts(4, 2);
        CHECK.builds("a", 0);
        CHECK.counts(4, 0);
        CHECK.defined("a=2");
        CHECK.buildsAll(1);
        CHECK.counts(4, 1);
        CHECK.builds("x", -1);
        CHECK.counts(4, 0);
    }

    private static void fullObject() {
        CHECK.test("the greatest counts");
        CHECK.fill(64, "1");
        CHECK.counts(0, 64);
        CHECK.counts(1, 64);
        CHECK.buildsAll(64);
        CHECK.counts(1, 0);
        CHECK.counts(3, 64);
        CHECK.counts(4, 64);
        for (int n = 1; n <= 100; n++) {
            CHECK.feedsOnly(20 * n, 'a');
        }
        CHECK.counts(2, 2000);
        CHECK.counts(0, 64);
    }
}
