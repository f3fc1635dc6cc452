/** Promise 8: buildAll. */
public final class Promise08Test {
    private static final Check CHECK = new Check("Promise 8 (buildAll)");

    public static void main(String[] args) {
        noCells();
        howMany();
        eachBeforeThose();
        staleThen();
        errors();
        tapeStays();
        sixtyFour();
        longChain();
        CHECK.exit();
    }

    private static void noCells() {
        CHECK.test("without cells none is worked out");
        CHECK.buildsAll(0);
        CHECK.counts(4, 0);
        CHECK.defined("a=1");
        CHECK.removes("a", true);
        CHECK.buildsAll(0);
    }

    private static void howMany() {
        CHECK.test("all cells are built: how many were worked out");
        CHECK.defined("a=1");
        CHECK.defined("b=2");
        CHECK.defined("c=a+b");
        CHECK.buildsAll(3);
        CHECK.worked("a b c");
        CHECK.counts(1, 0);
        CHECK.buildsAll(0);
        CHECK.worked("");
        CHECK.defined("b=3");
        CHECK.buildsAll(2);
        CHECK.worked("b c");
        CHECK.has("c", 1, 4);
        CHECK.counts(3, 5);
    }

    private static void eachBeforeThose() {
        CHECK.test("each before those that depend on it");
        CHECK.defined("a=d+1");
        CHECK.defined("d=b*2");
        CHECK.defined("b=c-3");
        CHECK.defined("c=10");
        CHECK.buildsAll(4);
        CHECK.has("a", 1, 15);
        CHECK.buildsAll(0);
    }

    private static void staleThen() {
        CHECK.test("worked out if it is stale then");
        CHECK.defined("a=1");
        CHECK.defined("b=a/10");
        CHECK.defined("c=b");
        CHECK.buildsAll(3);
        CHECK.defined("a=9");
        CHECK.buildsAll(2);
        CHECK.worked("a b");
        CHECK.defined("a=9");
        CHECK.buildsAll(1);
        CHECK.worked("a");
        CHECK.defined("a=10");
        CHECK.buildsAll(3);
        CHECK.has("c", 1, 1);
    }

    private static void errors() {
        CHECK.test("a cell with an ERROR is worked out as others are");
        CHECK.defined("a=1/0");
        CHECK.defined("b=a");
        CHECK.defined("c=x");
        CHECK.buildsAll(3);
        CHECK.has("a", 2, 0);
        CHECK.has("b", 3, 0);
        CHECK.has("c", 3, 0);
        CHECK.buildsAll(0);
    }

    private static void tapeStays() {
        CHECK.test("the tape is left alone");
        CHECK.defined("a=1");
        CHECK.tape("a=2");
        CHECK.buildsAll(1);
        CHECK.counts(2, 3);
        CHECK.answers("define()", -1, CellWorks::define);
        CHECK.buildsAll(1);
        CHECK.has("a", 1, 2);
    }

    private static void sixtyFour() {
        CHECK.test("all of 64 cells");
        CHECK.fill(64, "if(x,1,2)");
        CHECK.counts(1, 64);
        CHECK.buildsAll(64);
        CHECK.counts(1, 0);
        CHECK.counts(4, 64);
        CHECK.has("n1", 3, 0);
        CHECK.has("n64", 3, 0);
        CHECK.removes("n64", true);
        CHECK.defined("x=1");
        CHECK.buildsAll(64);
        CHECK.worked("n1 n10 n11".concat(rest()));
    }

    /** The names of the cells n1 to n63 and x from n12 on, in the order of names. */
    private static String rest() {
        StringBuilder text = new StringBuilder();
        for (int tens = 1; tens <= 9; tens++) {
            if (tens > 1) {
                text.append(" n").append(tens);
            }
            for (int n = tens == 1 ? 12 : 10 * tens; n < 10 * tens + 10 && n <= 63; n++) {
                text.append(" n").append(n);
            }
        }
        return text.append(" x").toString();
    }

    private static void longChain() {
        CHECK.test("a chain of all 64 cells");
        for (int i = 1; i <= 64; i++) {
            CHECK.tape("n" + (10 + i) + "=" + (i == 64 ? "1" : "n" + (11 + i) + "+1"));
            CHECK.answers("define()", -1, CellWorks::define);
        }
        CHECK.buildsAll(64);
        CHECK.has("n11", 1, 64);
        CHECK.defined("n74=2");
        CHECK.buildsAll(64);
        CHECK.has("n11", 1, 65);
        CHECK.counts(3, 128);
    }
}
