import java.nio.charset.StandardCharsets;

/** What the tests share: a CellWorks whose tape is written as text, and a count of the wrong answers. */
final class Check {
    interface Call {
        long answer();
    }

    private final String test;
    private int wrong = 0;
    private CellWorks works = new CellWorks();

    Check(String test) {
        this.test = test;
    }

    CellWorks works() {
        return works;
    }

    void anew() {
        works = new CellWorks();
    }

    void same(String what, long got, long due) {
        if (got != due) {
            wrong++;
            System.out.println(test + ": " + what + " answered " + got + ", due is " + due);
        }
    }

    void isThrown(String what, Class<? extends RuntimeException> due, Call call) {
        String got;
        try {
            got = String.valueOf(call.answer());
        } catch (RuntimeException e) {
            got = e.getClass().getName();
        }
        if (!got.equals(due.getName())) {
            wrong++;
            System.out.println(test + ": " + what + " answered " + got + ", due is " + due.getName());
        }
    }

    /** Makes the tape this text, whatever it was. */
    void tape(String text) {
        works.end(0);
        byte[] bytes = text.getBytes(StandardCharsets.ISO_8859_1);
        for (int from = 0; from < bytes.length; from += 20) {
            works.feed(word(bytes, from), word(bytes, from + 4), word(bytes, from + 8), word(bytes, from + 12),
                    word(bytes, from + 16));
        }
        works.end(bytes.length);
    }

    static int word(byte[] bytes, int from) {
        int word = 0;
        for (int i = from; i < from + 4; i++) {
            word = word << 8 | (i < bytes.length ? bytes[i] & 255 : 0);
        }
        return word;
    }

    void defined(String text) {
        tape(text);
        same("define() of '" + text + "'", works.define(), -1);
        same("fault() of '" + text + "'", works.fault(), 0);
        same("count(2) after define()", works.count(2), 0);
    }

    void refused(String text, int place, int code) {
        tape(text);
        int cells = works.count(0);
        same("define() of '" + text + "'", works.define(), place);
        same("fault() of '" + text + "'", works.fault(), code);
        same("count(2) after define()", works.count(2), 0);
        same("count(0) after define()", works.count(0), cells);
    }

    void builds(String name, int due) {
        tape(name);
        same("build() of '" + name + "'", works.build(), due);
        same("count(2) after build()", works.count(2), 0);
    }

    void buildsAll(int due) {
        same("buildAll()", works.buildAll(), due);
    }

    void removes(String name, boolean due) {
        tape(name);
        same("remove() of '" + name + "'", works.remove() ? 1 : 0, due ? 1 : 0);
        same("count(2) after remove()", works.count(2), 0);
    }

    void has(String name, int state, long value) {
        tape(name);
        same("state() of '" + name + "'", works.state(), state);
        same("value() of '" + name + "'", works.value(), value);
        same("count(2) after state() and value()", works.count(2), name.length());
    }

    void isRead(String name, int direct, int all) {
        tape(name);
        same("readers(false) of '" + name + "'", works.readers(false), direct);
        same("readers(true) of '" + name + "'", works.readers(true), all);
        same("count(2) after readers()", works.count(2), name.length());
    }

    /** The value of the formula, worked out in a cell of its own. */
    void makes(String formula, long due) {
        defined("formula = " + formula);
        builds("formula", 1);
        has("formula", 1, due);
        removes("formula", true);
    }

    void fails(String formula, int state) {
        defined("formula = " + formula);
        builds("formula", 1);
        has("formula", state, 0);
        removes("formula", true);
    }

    /** The names that the latest build worked out, each behind a blank. */
    void worked(String due) {
        StringBuilder got = new StringBuilder();
        for (int i = 0; i < works.count(4); i++) {
            got.append(i == 0 ? "" : " ").append(nameBuilt(i));
        }
        if (!got.toString().equals(due)) {
            wrong++;
            System.out.println(test + ": built() tells '" + got + "', due is '" + due + "'");
        }
    }

    private String nameBuilt(int i) {
        StringBuilder name = new StringBuilder();
        for (int k = 0; k < 9; k++) {
            try {
                name.append((char) works.built(i, k));
            } catch (IndexOutOfBoundsException e) {
                return name.toString();
            }
        }
        return name.toString();
    }

    void exit() {
        System.exit(wrong == 0 ? 0 : 1);
    }
}
