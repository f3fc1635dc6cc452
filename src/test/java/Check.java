import java.nio.charset.StandardCharsets;
import java.util.ArrayList;
import java.util.LinkedHashSet;
import java.util.List;
import java.util.Set;
import java.util.regex.Matcher;
import java.util.regex.Pattern;

/** What the tests of one promise share: the object that is tested, and a count of its wrong answers. */
final class Check {
    interface Call {
        long answer(CellWorks works);
    }

    private static final Pattern NAME = Pattern.compile("[A-Za-z][A-Za-z0-9]*");
    // Behind them the document promises nothing, so a test must not ask on.
    private static final int MOST_CALLS = 512;

    private final String promise;
    private String sentence = "";
    private int wrong = 0;
    private CellWorks works = new CellWorks();
    private final List<Call> story = new ArrayList<>();
    private final Set<String> names = new LinkedHashSet<>();

    Check(String promise) {
        this.promise = promise;
    }

    /** Begins with a new object the test of a sentence of the document. */
    void test(String sentence) {
        this.sentence = sentence;
        works = new CellWorks();
        story.clear();
        names.clear();
    }

    void same(String what, Object got, Object due) {
        if (!got.equals(due)) {
            wrong++;
            System.out.println(promise + ": " + sentence + ": " + what + " answered " + got + ", due is " + due);
        }
    }

    void answers(String what, long due, Call call) {
        same(what, tell(call), String.valueOf(due));
    }

    /** The call throws this, and an object on which it was not made tells the same of itself behind it. */
    void refuses(String what, Class<? extends RuntimeException> due, Call call) {
        CellWorks without = again();
        same(what, tell(call), due.getName());
        CellWorks with = again();
        same("fault() after " + what, with.fault(), without.fault());
        sameBehind(what, with, without);
    }

    /** The place and the code of the text's fault; but for the code, the object is as if just the tape were emptied. */
    void faulty(String text, int place, int code) {
        tape(text);
        CellWorks without = again();
        without.end(0);
        answers("define() of '" + text + "'", place, CellWorks::define);
        CellWorks with = again();
        answers("fault() of '" + text + "'", code, CellWorks::fault);
        answers("count(2) after define()", 0, x -> x.count(2));
        sameBehind("define() of '" + text + "'", with, without);
    }

    private void sameBehind(String what, CellWorks with, CellWorks without) {
        Portrait got = Portrait.of(with, names);
        Portrait due = Portrait.of(without, names);
        countCalls(story.size() + got.calls());
        same("all calls after " + what, got.text(), due.text());
    }

    private String tell(Call call) {
        story.add(call);
        countCalls(story.size());
        return Portrait.told(works, call);
    }

    private void countCalls(int calls) {
        if (calls > MOST_CALLS) {
            throw new IllegalStateException(promise + ": " + sentence + ": the test makes too many calls");
        }
    }

    private CellWorks again() {
        CellWorks other = new CellWorks();
        for (Call call : story) {
            Portrait.told(other, call);
        }
        return other;
    }

    /** How many calls the object has had. */
    int calls() {
        return story.size();
    }

    void feeds(int due, int a, int b, int c, int d, int e) {
        answers("feed(" + a + ", " + b + ", " + c + ", " + d + ", " + e + ")", due, x -> x.feed(a, b, c, d, e));
    }

    /** Feeds this byte twenty times. */
    void feedsOnly(int due, int each) {
        int word = each * 0x01010101;
        feeds(due, word, word, word, word, word);
    }

    void ends(int n) {
        answers("end(" + n + ")", n, endAt(n));
    }

    void refusesEnd(int n) {
        refuses("end(" + n + ")", IllegalArgumentException.class, endAt(n));
    }

    private static Call endAt(int n) {
        return x -> {
            x.end(n);
            return n;
        };
    }

    void counts(int what, int due) {
        answers("count(" + what + ")", due, x -> x.count(what));
    }

    /** Makes the tape this text, whatever it was. */
    void tape(String text) {
        ends(0);
        write(text);
    }

    /** Writes the text on the empty tape. */
    private void write(String text) {
        byte[] bytes = text.getBytes(StandardCharsets.ISO_8859_1);
        for (int from = 0; from < bytes.length; from += 20) {
            feeds(from + 20, Portrait.word(bytes, from), Portrait.word(bytes, from + 4),
                    Portrait.word(bytes, from + 8), Portrait.word(bytes, from + 12), Portrait.word(bytes, from + 16));
        }
        ends(bytes.length);
        Matcher matcher = NAME.matcher(text);
        while (matcher.find()) {
            names.add(matcher.group());
        }
    }

    void defined(String text) {
        tape(text);
        answers("define() of '" + text + "'", -1, CellWorks::define);
        answers("fault() of '" + text + "'", 0, CellWorks::fault);
        answers("count(2) after define()", 0, x -> x.count(2));
    }

    /** Defines cells n1, n2 and so on, up to this one, with this behind each name's =; few calls for each. */
    void fill(int cells, String formula) {
        for (int i = 1; i <= cells; i++) {
            write("n" + i + "=" + formula);
            answers("define() of cell " + i, -1, CellWorks::define);
        }
    }

    void builds(String name, int due) {
        tape(name);
        answers("build() of '" + name + "'", due, CellWorks::build);
        answers("count(2) after build()", 0, x -> x.count(2));
    }

    void buildsAll(int due) {
        answers("buildAll()", due, CellWorks::buildAll);
    }

    void removes(String name, boolean due) {
        tape(name);
        answers("remove() of '" + name + "'", due ? 1 : 0, x -> x.remove() ? 1 : 0);
        answers("count(2) after remove()", 0, x -> x.count(2));
    }

    void has(String name, int state, long value) {
        tape(name);
        answers("state() of '" + name + "'", state, CellWorks::state);
        answers("value() of '" + name + "'", value, CellWorks::value);
    }

    void isRead(String name, int direct, int all) {
        tape(name);
        answers("readers(false) of '" + name + "'", direct, x -> x.readers(false));
        answers("readers(true) of '" + name + "'", all, x -> x.readers(true));
    }

    /** The formula, worked out in a cell of its own, has this state and value. */
    void worksOut(String formula, int state, long value) {
        defined("formula = " + formula);
        builds("formula", 1);
        has("formula", state, value);
        removes("formula", true);
    }

    void makes(String formula, long due) {
        worksOut(formula, 1, due);
    }

    /** The names that the latest build worked out, with a blank between them. */
    void worked(String due) {
        StringBuilder got = new StringBuilder();
        int size = due.isEmpty() ? 0 : due.split(" ").length;
        counts(4, size);
        for (int i = 0; i < size; i++) {
            got.append(i == 0 ? "" : " ").append(nameBuilt(i));
        }
        same("built()", got.toString(), due);
    }

    private String nameBuilt(int i) {
        StringBuilder name = new StringBuilder();
        for (int k = 0; k <= 8; k++) {
            int place = k;
            String answer = tell(x -> x.built(i, place));
            if (answer.equals(IndexOutOfBoundsException.class.getName())) {
                break;
            }
            name.append(answer.endsWith("Exception") ? answer : (char) Integer.parseInt(answer));
        }
        return name.toString();
    }

    /** Ends the test program, with exit code 1 if an answer was wrong. */
    void exit() {
        System.exit(wrong == 0 ? 0 : 1);
    }
}
