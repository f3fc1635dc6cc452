import java.nio.charset.StandardCharsets;
import java.util.Collection;

/** All that an object tells when it is asked, as one text: two objects in the same state have the same portrait. */
final class Portrait {
    private static final int MOST_NAMES = 8;
    private static final int MOST_BUILT = 4;

    private final CellWorks works;
    private final StringBuilder text = new StringBuilder();
    private int calls = 0;

    private Portrait(CellWorks works) {
        this.works = works;
    }

    /** The object is used up by this: its tape is taken as a definition, and its cells are built. */
    static Portrait of(CellWorks works, Collection<String> names) {
        Portrait portrait = new Portrait(works);
        portrait.counts();
        portrait.nameOnTape();
        portrait.note("define()", CellWorks::define);
        portrait.note("fault()", CellWorks::fault);
        portrait.names(names);
        portrait.note("buildAll()", CellWorks::buildAll);
        portrait.counts();
        portrait.names(names);
        return portrait;
    }

    /** What the call answers, or the name of what it throws. */
    static String told(CellWorks works, Check.Call call) {
        try {
            return String.valueOf(call.answer(works));
        } catch (RuntimeException e) {
            return e.getClass().getName();
        }
    }

    static void write(CellWorks works, String line) {
        byte[] bytes = line.getBytes(StandardCharsets.ISO_8859_1);
        for (int from = 0; from < bytes.length; from += 20) {
            works.feed(word(bytes, from), word(bytes, from + 4), word(bytes, from + 8), word(bytes, from + 12),
                    word(bytes, from + 16));
        }
        works.end(bytes.length);
    }

    static int word(byte[] bytes, int from) {
        int word = 0;
        for (int i = from; i < from + 4; i++) {
            word = word << 8 | (i < bytes.length ? bytes[i] & 255 : 0);
        }
        return word;
    }

    String text() {
        return text.toString();
    }

    int calls() {
        return calls;
    }

    private String note(String what, Check.Call call) {
        calls++;
        String answer = told(works, call);
        text.append(what).append(' ').append(answer).append("; ");
        return answer;
    }

    private void counts() {
        for (int what = 0; what <= 4; what++) {
            int asked = what;
            note("count(" + what + ")", x -> x.count(asked));
        }
        for (int i = 0; i < MOST_BUILT; i++) {
            String answer = "";
            for (int k = 0; k <= 8 && !answer.endsWith("Exception"); k++) {
                int name = i;
                int place = k;
                answer = note("built(" + i + ", " + k + ")", x -> x.built(name, place));
            }
        }
    }

    private void nameOnTape() {
        note("state()", CellWorks::state);
        note("value()", CellWorks::value);
        note("readers(false)", x -> x.readers(false));
        note("readers(true)", x -> x.readers(true));
    }

    private void names(Collection<String> names) {
        names.stream().limit(MOST_NAMES).forEach(name -> {
            works.end(0);
            write(works, name);
            calls += 3;
            text.append("of ").append(name).append(": ");
            nameOnTape();
        });
        works.end(0);
        calls++;
    }
}
