import java.util.NoSuchElementException;

/** What promises 6, 7, 9, 10 and 11 share: each asks for a tape that is just a NAME. */
final class NoNames {
    private static final String[] EMPTY = {"", " ", " \t\r\n"};
    private static final String[] FUNCTIONS = {"min", "max", "if", " if "};
    private static final String[] TOO_LONG = {"abcdefghi", "a23456789", " abcdefghi ", "a234567890123456789012345"};
    private static final String[] OTHER_TOKENS = {"1", "123456789", "1a", "=", "+", "-", "*", "/", "(", ")", ","};
    private static final String[] MORE_TOKENS = {"a b", "a a", "a=1", "a=", "a,", "a 1", "a-", "-a", "(a)", "a+b", "a min"};
    private static final String[] NO_TOKENS = {"$", "a$", "$a", "a.", "a\0", "\0a", "\u00e1", "a\u00e1", "a_b", "a\f", "@"};

    private NoNames() { }

    /** The call refuses every tape that is no NAME, and leaves everything as it was. */
    static void refused(Check check, String what, Check.Call call) {
        refused(check, what, "the empty tape is no NAME", EMPTY, call);
        refused(check, what, "a function is no NAME", FUNCTIONS, call);
        refused(check, what, "nine bytes are no NAME", TOO_LONG, call);
        refused(check, what, "another token is no NAME", OTHER_TOKENS, call);
        refused(check, what, "more than one token is no NAME", MORE_TOKENS, call);
        refused(check, what, "what is no token is no NAME", NO_TOKENS, call);
    }

    private static void refused(Check check, String what, String sentence, String[] texts, Check.Call call) {
        for (String text : texts) {
            check.test(sentence);
            check.defined("a=1");
            check.defined("b=a/0");
            check.buildsAll(2);
            check.faulty("a=a1+", 5, 2);
            check.tape(text);
            check.refuses(what + " of '" + text + "'", NoSuchElementException.class, call);
            check.counts(2, text.length());
        }
    }
}
