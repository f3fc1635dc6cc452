/** Promise 4: define, and of 'What it is' the tokens. */
public final class Promise04TokensTest {
    private static final Check CHECK = new Check("Promise 4 (define: tokens)");
    private static final String BLANKS = "\t\n\r ";
    private static final String LETTERS = "ABCDEFGHIJKLMNOPQRSTUVWXYZabcdefghijklmnopqrstuvwxyz";
    private static final String DIGITS = "0123456789";
    private static final String SIGNS = "+-*/";
    private static final String OTHER_MARKS = "=(),";

    public static void main(String[] args) {
        firstBytes();
        bytesBehindName();
        bytesBehindNumber();
        blanks();
        longestName();
        longestNumber();
        asLongAsMayBe();
        functions();
        CHECK.exit();
    }

    private static boolean isOneOf(char c, String set) {
        return set.indexOf(c) >= 0;
    }

    private static void firstBytes() {
        for (char c = 0; c < 256; c++) {
            CHECK.test("what begins a token: byte " + (int) c);
            if (isOneOf(c, BLANKS + LETTERS)) {
                CHECK.faulty(String.valueOf(c), 1, 2);
            } else {
                CHECK.faulty(String.valueOf(c), 0, isOneOf(c, DIGITS + SIGNS + OTHER_MARKS) ? 2 : 1);
            }
        }
    }

    private static void bytesBehindName() {
        for (char c = 0; c < 256; c++) {
            CHECK.test("what a NAME goes on with: byte " + (int) c);
            String text = "a" + c + "=1";
            if (isOneOf(c, LETTERS + DIGITS)) {
                CHECK.defined(text);
                CHECK.has("a" + c, 4, 0);
                CHECK.has("a", -1, 0);
            } else if (isOneOf(c, BLANKS)) {
                CHECK.defined(text);
                CHECK.has("a", 4, 0);
            } else if (c == '=') {
                CHECK.faulty(text, 2, 2);
            } else {
                CHECK.faulty(text, 1, isOneOf(c, SIGNS + OTHER_MARKS) ? 2 : 1);
            }
        }
    }

    private static void bytesBehindNumber() {
        for (char c = 0; c < 256; c++) {
            CHECK.test("what a NUMBER goes on with: byte " + (int) c);
            String text = "a=1" + c;
            if (isOneOf(c, DIGITS + BLANKS)) {
                CHECK.defined(text);
                CHECK.buildsAll(1);
                CHECK.has("a", 1, isOneOf(c, DIGITS) ? 10 + c - '0' : 1);
            } else if (isOneOf(c, SIGNS)) {
                CHECK.faulty(text, 4, 2);
            } else {
                CHECK.faulty(text, 3, isOneOf(c, LETTERS + OTHER_MARKS) ? 2 : 1);
            }
        }
    }

    private static void blanks() {
        CHECK.test("blanks between tokens where one likes");
        CHECK.defined("a=min(1,2)*-(b)");
        CHECK.defined("\t\n\r a\t\n\r =\t\n\r min\t\n\r (\t\n\r 1\t\n\r ,\t\n\r 2\t\n\r )\t\n\r *\t\n\r -\t\n\r ( b )\t\n\r ");
        CHECK.test("a blank ends a NAME, and a NUMBER");
        CHECK.faulty("a b=1", 2, 2);
        CHECK.faulty("a=b c", 4, 2);
        CHECK.faulty("a=1 2", 4, 2);
        CHECK.faulty("a=mi n(1,2)", 5, 2);
        CHECK.defined("a=mi + n");
        CHECK.test("blanks alone are no definition");
        CHECK.faulty(" ", 1, 2);
        CHECK.faulty("\t\n\r ", 4, 2);
    }

    private static void longestName() {
        CHECK.test("a NAME has at most 8 bytes");
        CHECK.defined("abcdefgh=bcdefgh8+A2345678");
        CHECK.defined("a=abcdefgh");
        CHECK.isRead("abcdefgh", 1, 1);
        CHECK.isRead("bcdefgh8", 1, 2);
        CHECK.isRead("A2345678", 1, 2);
        CHECK.test("a NAME of 9 bytes is too long");
        CHECK.faulty("abcdefghi=1", 0, 1);
        CHECK.faulty("a23456789=1", 0, 1);
        CHECK.faulty("  abcdefghi=1", 2, 1);
        CHECK.faulty("a=bcdefghij", 2, 1);
        CHECK.faulty("a=1+bcdefghij", 4, 1);
        CHECK.faulty("a=minminmin", 2, 1);
        CHECK.faulty("a=min(1,abcdefghi)", 8, 1);
        CHECK.test("a much too long NAME");
        CHECK.faulty("a=" + "b".repeat(300), 2, 1);
        CHECK.faulty("a".repeat(300), 0, 1);
        CHECK.test("the eighth byte tells names apart, and so does each before");
        CHECK.defined("abcdefgh=1");
        CHECK.defined("abcdefgi=2");
        CHECK.defined("bbcdefgh=3");
        CHECK.defined("abcdefg=4");
        CHECK.defined("Abcdefgh=5");
        CHECK.buildsAll(5);
        CHECK.has("abcdefgh", 1, 1);
        CHECK.has("abcdefgi", 1, 2);
        CHECK.has("bbcdefgh", 1, 3);
        CHECK.has("abcdefg", 1, 4);
        CHECK.has("Abcdefgh", 1, 5);
    }

    private static void longestNumber() {
        CHECK.test("a NUMBER has at most 9 digits");
        CHECK.makes("999999999", 999999999);
        CHECK.makes("000000000", 0);
        CHECK.makes("000000012", 12);
        CHECK.makes("123456789", 123456789);
        CHECK.makes("0", 0);
        CHECK.test("a NUMBER of 10 digits is too long");
        CHECK.faulty("a=1000000000", 2, 1);
        CHECK.faulty("a=0000000001", 2, 1);
        CHECK.faulty("a=1+1234567890", 4, 1);
        CHECK.faulty("1234567890", 0, 1);
        CHECK.faulty("a=-  1234567890", 5, 1);
        CHECK.test("a much too long NUMBER");
        CHECK.faulty("a=" + "4294967297".repeat(30), 2, 1);
    }

    private static void asLongAsMayBe() {
        CHECK.test("each token is as long as may be");
        CHECK.defined("minx=mini+if1+max0+a1b2c3d4");
        CHECK.isRead("mini", 1, 1);
        CHECK.isRead("if1", 1, 1);
        CHECK.isRead("max0", 1, 1);
        CHECK.isRead("a1b2c3d4", 1, 1);
        CHECK.isRead("mi", 0, 0);
        CHECK.isRead("a", 0, 0);
        CHECK.test("a digit begins no NAME, and a NUMBER ends where a letter begins");
        CHECK.faulty("1a=1", 0, 2);
        CHECK.faulty("a=12b", 4, 2);
        CHECK.faulty("a=123456789b", 11, 2);
        CHECK.faulty("a=1abcdefghi", 3, 1);
    }

    private static void functions() {
        CHECK.test("min, max and if are no NAMES");
        CHECK.faulty("min=1", 0, 2);
        CHECK.faulty("max=1", 0, 2);
        CHECK.faulty("if=1", 0, 2);
        CHECK.faulty(" if=1", 1, 2);
        CHECK.faulty("a=min", 5, 2);
        CHECK.faulty("a=max+1", 5, 2);
        CHECK.faulty("a=if*1", 4, 2);
        CHECK.test("other words are NAMES, and no functions");
        CHECK.defined("MIN=Min+MAX+IF+If+iF+mi+i+ifi+minmax");
        CHECK.faulty("a=MIN(1,2)", 5, 2);
        CHECK.faulty("a=abs(1)", 5, 2);
        CHECK.counts(0, 1);
    }
}
