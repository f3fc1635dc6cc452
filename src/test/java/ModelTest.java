import java.nio.charset.StandardCharsets;
import java.util.Random;

/** Long runs of calls, told by a fixed seed, whose answers CellWorks and Model must share. */
public final class ModelTest {
    private static final int RUNS = 1500;
    private static final int CALLS = 512;
    private static final String[] FEW = {"a", "b", "c", "ab", "A", "a0", "abcdefgh", "x"};
    private static final String MARKS = "=+-*/(),. \t\n\r09azAZ$@[`{/:\0\u00ff";

    private interface Call {
        long answer();
    }

    private final Random random;
    private final CellWorks works = new CellWorks();
    private final Model model = new Model();
    private final int names;
    private final StringBuilder story = new StringBuilder();
    private int calls = 0;
    private boolean right = true;

    private ModelTest(int seed) {
        random = new Random(seed);
        names = new int[] {4, 8, 20, 90}[seed % 4];
    }

    public static void main(String[] args) {
        for (int seed = 0; seed < RUNS; seed++) {
            ModelTest test = new ModelTest(seed);
            test.run();
            if (!test.right) {
                System.out.println("ModelTest: run " + seed + "\n" + test.story);
                System.exit(1);
            }
        }
    }

    private void run() {
        while (calls < CALLS - 120 && right) {
            switch (random.nextInt(16)) {
                case 0, 1, 2, 3, 4, 5 -> define();
                case 6 -> onName("remove()", works::remove, model::remove);
                case 7, 8 -> onName("build()", works::build, model::build);
                case 9 -> compare("buildAll()", works::buildAll, model::buildAll);
                case 10, 11 -> look();
                case 12 -> built();
                case 13 -> odd();
                default -> counts();
            }
        }
    }

    private interface Asking {
        boolean answer();
    }

    private void onName(String what, Asking got, Call due) {
        onName(what, (Call) () -> got.answer() ? 1 : 0, due);
    }

    private void onName(String what, Call got, Call due) {
        write(nameText());
        compare(what, got, due);
    }

    private void define() {
        write(definition());
        compare("define()", works::define, model::define);
        compare("fault()", works::fault, model::fault);
    }

    private void look() {
        write(nameText());
        compare("state()", works::state, model::state);
        compare("value()", works::value, model::value);
        compare("readers(false)", () -> works.readers(false), () -> model.readers(false));
        compare("readers(true)", () -> works.readers(true), () -> model.readers(true));
    }

    private void built() {
        int i = random.nextInt(6) - 1;
        int k = random.nextInt(6) - 1;
        compare("built(" + i + ", " + k + ")", () -> works.built(i, k), () -> model.built(i, k));
    }

    private void counts() {
        int what = random.nextInt(7) - 1;
        compare("count(" + what + ")", () -> works.count(what), () -> model.count(what));
    }

    /** Calls on whatever the tape happens to be. */
    private void odd() {
        switch (random.nextInt(6)) {
            case 0 -> compare("define()", works::define, model::define);
            case 1 -> compare("value()", works::value, model::value);
            case 2 -> end(random.nextInt(60) - 20);
            case 3 -> compare("build()", works::build, model::build);
            case 4 -> feed(random.nextInt(), random.nextInt(), random.nextInt(), random.nextInt(), random.nextInt());
            default -> {
                for (int n = random.nextInt(3) == 0 ? 105 : 3; n > 0; n--) {
                    feed(0x20202020, 0x20202020, 0x20202020, 0x20202020, 0x20202020);
                }
            }
        }
    }

    private void feed(int a, int b, int c, int d, int e) {
        compare("feed(" + a + ", " + b + ", " + c + ", " + d + ", " + e + ")", () -> works.feed(a, b, c, d, e),
                () -> model.feed(a, b, c, d, e));
    }

    private void end(int n) {
        compare("end(" + n + ")", () -> {
            works.end(n);
            return 0;
        }, () -> model.end(n));
    }

    private void write(String text) {
        story.append("  on '").append(text).append("'\n");
        end(0);
        byte[] bytes = text.getBytes(StandardCharsets.ISO_8859_1);
        for (int from = 0; from < bytes.length; from += 20) {
            feed(Portrait.word(bytes, from), Portrait.word(bytes, from + 4), Portrait.word(bytes, from + 8),
                    Portrait.word(bytes, from + 12), Portrait.word(bytes, from + 16));
        }
        end(bytes.length);
    }

    private void compare(String what, Call got, Call due) {
        calls++;
        String answer = told(got);
        String wanted = told(due);
        story.append("  ").append(what).append(" -> ").append(answer).append('\n');
        if (right && !answer.equals(wanted)) {
            right = false;
            story.append("  due is ").append(wanted).append('\n');
        }
    }

    private static String told(Call call) {
        try {
            return String.valueOf(call.answer());
        } catch (RuntimeException e) {
            return e.getClass().getName();
        }
    }

    private String name() {
        int i = random.nextInt(names);
        return i < FEW.length ? FEW[i] : "n" + i;
    }

    private String nameText() {
        String text = random.nextInt(6) == 0 ? blanks() + name() + blanks() : name();
        return random.nextInt(20) == 0 ? spoilt(text) : text;
    }

    private String blanks() {
        return random.nextInt(4) == 0 ? String.valueOf(" \t\n\r".charAt(random.nextInt(4))) : "";
    }

    private String definition() {
        if (random.nextInt(3) == 0) {
            return name() + "=" + (random.nextBoolean() ? name() : String.valueOf(random.nextInt(3)));
        }
        StringBuilder text = new StringBuilder(blanks() + name() + blanks() + "=");
        sum(text, random.nextInt(14) == 0 ? 24 : random.nextInt(5));
        return random.nextInt(8) == 0 ? spoilt(text.toString()) : text.toString();
    }

    private String spoilt(String text) {
        int at = random.nextInt(text.length() + 1);
        char mark = MARKS.charAt(random.nextInt(MARKS.length()));
        return switch (random.nextInt(3)) {
            case 0 -> text.substring(0, at);
            case 1 -> text.substring(0, at) + mark + text.substring(at);
            default -> text.substring(0, at) + mark + text.substring(Math.min(at + 1, text.length()));
        };
    }

    private void sum(StringBuilder text, int depth) {
        part(text, depth);
        int more = random.nextInt(depth > 20 || depth < 2 ? 2 : 3);
        more = random.nextInt(120) == 0 ? 19 + random.nextInt(3) : more;
        for (int n = 0; n < more && text.length() < 200; n++) {
            text.append(blanks()).append("+-*/".charAt(random.nextInt(4))).append(blanks());
            part(text, depth);
        }
    }

    private void part(StringBuilder text, int depth) {
        text.append(blanks());
        int kind = depth <= 0 || text.length() > 200 ? random.nextInt(2) : random.nextInt(depth > 5 ? 5 : 7);
        if (depth > 5 && random.nextInt(6) != 0) {
            kind = 2 + random.nextInt(2);
        }
        switch (kind) {
            case 0 -> text.append(random.nextInt(9) == 0 ? random.nextInt(1 << 30) : random.nextInt(4));
            case 1 -> text.append(name());
            case 2 -> {
                text.append("-");
                part(text, depth - 1);
            }
            case 3 -> arguments(text.append("("), 1, depth - 1);
            case 4 -> arguments(text.append("min("), 2, depth - 1);
            case 5 -> arguments(text.append("max("), 2, depth - 1);
            default -> arguments(text.append("if").append(blanks()).append("("), 3, depth - 1);
        }
        text.append(blanks());
    }

    private void arguments(StringBuilder text, int number, int depth) {
        for (int i = 0; i < number; i++) {
            sum(text.append(i == 0 ? "" : ","), depth);
        }
        text.append(")");
    }
}
