import java.util.ArrayList;
import java.util.Comparator;
import java.util.HashMap;
import java.util.List;
import java.util.Map;
import java.util.NoSuchElementException;
import java.util.Set;
import java.util.TreeMap;
import java.util.TreeSet;
import java.util.regex.Matcher;
import java.util.regex.Pattern;

/** The document once more, slowly and by other means than CellWorks, for ModelTest to compare the two. */
final class Model {
    private static final Pattern TOKEN = Pattern.compile("[A-Za-z][A-Za-z0-9]*|[0-9]+|[-=+*/(),]");
    private static final Set<String> FUNCTIONS = Set.of("min", "max", "if");

    private record Token(String text, int place) { }

    private record Result(int kind, long value) { }

    private static final Result NOTHING = new Result(0, 0);

    private static final class Cell {
        List<Token> formula;
        Result result = NOTHING;
        Map<String, Result> seen = null;
    }

    private static final class Failure extends RuntimeException {
        private static final long serialVersionUID = 1L;
        final int kind;

        Failure(int kind) {
            this.kind = kind;
        }
    }

    private String tape = "";
    private final Map<String, Cell> cells = new TreeMap<>();
    private int fault = 0;
    private int total = 0;
    private List<String> latest = new ArrayList<>();

    int feed(int... words) {
        if (tape.length() + 20 > 2000) {
            throw new UnsupportedOperationException();
        }
        for (int word : words) {
            for (int i = 3; i >= 0; i--) {
                tape += (char) (word >> 8 * i & 255);
            }
        }
        return tape.length();
    }

    long end(int n) {
        if (n < 0 || n > tape.length()) {
            throw new IllegalArgumentException();
        }
        tape = tape.substring(0, n);
        return 0;
    }

    int define() {
        List<Token> tokens = new ArrayList<>();
        int place = readUntilFault(tokens);
        tape = "";
        if (fault != 0) {
            return place;
        }
        String name = tokens.get(0).text();
        List<Token> formula = tokens.subList(2, tokens.size());
        if (!cells.containsKey(name) && cells.size() == 64) {
            fault = 4;
            return 0;
        }
        for (Token token : formula) {
            if (isName(token.text()) && (token.text().equals(name) || ground(token.text()).contains(name))) {
                fault = 5;
                return token.place();
            }
        }
        Cell cell = cells.computeIfAbsent(name, n -> new Cell());
        cell.formula = formula;
        cell.seen = null;
        return -1;
    }

    int fault() {
        return fault;
    }

    long remove() {
        String name = nameOnTape();
        tape = "";
        return cells.remove(name) == null ? 0 : 1;
    }

    int build() {
        String name = nameOnTape();
        tape = "";
        latest = new ArrayList<>();
        if (!cells.containsKey(name)) {
            return -1;
        }
        buildName(name);
        latest.sort(Comparator.naturalOrder());
        return latest.size();
    }

    int buildAll() {
        latest = new ArrayList<>();
        cells.keySet().forEach(this::buildName);
        latest.sort(Comparator.naturalOrder());
        return latest.size();
    }

    long value() {
        return result(nameOnTape()).value();
    }

    int state() {
        String name = nameOnTape();
        Cell cell = cells.get(name);
        return cell == null ? -1 : cell.result.kind() + (isStale(cell) ? 4 : 0);
    }

    int readers(boolean all) {
        String name = nameOnTape();
        int found = 0;
        for (String reader : cells.keySet()) {
            found += (all ? ground(reader) : names(cells.get(reader))).contains(name) ? 1 : 0;
        }
        return found;
    }

    int built(int i, int k) {
        if (i < 0 || i >= latest.size() || k < 0 || k >= latest.get(i).length()) {
            throw new IndexOutOfBoundsException();
        }
        return latest.get(i).charAt(k);
    }

    int count(int what) {
        return switch (what) {
            case 0 -> cells.size();
            case 1 -> (int) cells.values().stream().filter(this::isStale).count();
            case 2 -> tape.length();
            case 3 -> total;
            case 4 -> latest.size();
            default -> throw new IllegalArgumentException();
        };
    }

    private static boolean isName(String text) {
        return Character.isLetter(text.charAt(0)) && !FUNCTIONS.contains(text);
    }

    private String nameOnTape() {
        String text = tape.replaceAll("^[\t\n\r ]+|[\t\n\r ]+$", "");
        if (!text.matches("[A-Za-z][A-Za-z0-9]{0,7}") || FUNCTIONS.contains(text)) {
            throw new NoSuchElementException();
        }
        return text;
    }

    private Result result(String name) {
        return cells.containsKey(name) ? cells.get(name).result : NOTHING;
    }

    private static Set<String> names(Cell cell) {
        Set<String> names = new TreeSet<>();
        cell.formula.stream().map(Token::text).filter(Model::isName).forEach(names::add);
        return names;
    }

    /** The names on which this one depends. */
    private Set<String> ground(String name) {
        Set<String> found = new TreeSet<>();
        List<String> open = new ArrayList<>(List.of(name));
        while (!open.isEmpty()) {
            Cell cell = cells.get(open.remove(open.size() - 1));
            if (cell != null) {
                names(cell).stream().filter(found::add).forEach(open::add);
            }
        }
        return found;
    }

    private boolean isStale(Cell cell) {
        return cell.seen == null || names(cell).stream().anyMatch(n -> !result(n).equals(cell.seen.get(n)));
    }

    private void buildName(String name) {
        Cell cell = cells.get(name);
        if (cell == null) {
            return;
        }
        names(cell).forEach(this::buildName);
        if (!isStale(cell)) {
            return;
        }
        Map<String, Result> seen = new HashMap<>();
        names(cell).forEach(n -> seen.put(n, result(n)));
        cell.seen = seen;
        try {
            cell.result = new Result(1, worth(cell.formula));
        } catch (Failure failure) {
            cell.result = new Result(failure.kind, 0);
        }
        latest.add(name);
        total++;
    }

    /** Splits the formula at its last sign outside of brackets, a weak one before a strong one. */
    private long worth(List<Token> tokens) {
        for (String signs : new String[] {"+-", "*/"}) {
            int depth = 0;
            for (int i = tokens.size() - 1; i > 0; i--) {
                String text = tokens.get(i).text();
                depth += text.equals(")") ? 1 : text.equals("(") ? -1 : 0;
                String before = tokens.get(i - 1).text();
                boolean between = before.equals(")") || Character.isLetterOrDigit(before.charAt(0));
                if (depth == 0 && between && signs.contains(text)) {
                    long left = worth(tokens.subList(0, i));
                    return joined(text.charAt(0), left, worth(tokens.subList(i + 1, tokens.size())));
                }
            }
        }
        return worthOfPart(tokens);
    }

    private static long joined(char sign, long left, long right) {
        if (sign == '/' && right == 0) {
            throw new Failure(2);
        }
        return sign == '+' ? left + right : sign == '-' ? left - right : sign == '*' ? left * right : left / right;
    }

    private long worthOfPart(List<Token> tokens) {
        String first = tokens.get(0).text();
        if (first.equals("-")) {
            return -worth(tokens.subList(1, tokens.size()));
        }
        if (first.equals("(")) {
            return worth(tokens.subList(1, tokens.size() - 1));
        }
        if (Character.isDigit(first.charAt(0))) {
            return Long.parseLong(first);
        }
        if (FUNCTIONS.contains(first)) {
            return worthOfFunction(first, arguments(tokens));
        }
        if (result(first).kind() != 1) {
            throw new Failure(3);
        }
        return result(first).value();
    }

    private long worthOfFunction(String function, List<List<Token>> arguments) {
        long first = worth(arguments.get(0));
        if (function.equals("if")) {
            return worth(arguments.get(first > 0 ? 1 : 2));
        }
        long second = worth(arguments.get(1));
        return function.equals("min") == first < second ? first : second;
    }

    private static List<List<Token>> arguments(List<Token> tokens) {
        List<List<Token>> found = new ArrayList<>();
        int depth = 0;
        int from = 2;
        for (int i = 1; i < tokens.size(); i++) {
            String text = tokens.get(i).text();
            depth += text.equals("(") ? 1 : text.equals(")") ? -1 : 0;
            if (depth == 1 && text.equals(",") || depth == 0) {
                found.add(tokens.subList(from, i));
                from = i + 1;
            }
        }
        return found;
    }

    private enum Wanted { TARGET, EQUALS, PART, SIGN, BRACKET }

    /** Reads tokens with a stack of what is open: a '-' is -1, a bracket the commas that it still needs. */
    private int readUntilFault(List<Token> tokens) {
        List<Integer> open = new ArrayList<>();
        Wanted wanted = Wanted.TARGET;
        int nodes = 0;
        int commas = 0;
        fault = 0;
        int at = 0;
        while (true) {
            while (at < tape.length() && "\t\n\r ".indexOf(tape.charAt(at)) >= 0) {
                at++;
            }
            if (at == tape.length()) {
                fault = wanted == Wanted.SIGN && open.isEmpty() ? 0 : 2;
                return at;
            }
            Matcher matcher = TOKEN.matcher(tape).region(at, tape.length());
            if (!matcher.lookingAt()) {
                fault = 1;
                return at;
            }
            String text = matcher.group();
            char first = text.charAt(0);
            boolean word = Character.isLetter(first);
            if (text.length() > (word ? 8 : 9)) {
                fault = 1;
                return at;
            }
            boolean operand = isName(text) || Character.isDigit(first);
            boolean function = word && !operand;
            int top = open.isEmpty() ? -2 : open.get(open.size() - 1);
            boolean fits = switch (wanted) {
                case TARGET -> isName(text);
                case EQUALS -> first == '=';
                case PART -> word || operand || first == '-' || first == '(';
                case SIGN -> "+-*/".indexOf(first) >= 0 || first == ',' && top > 0 || first == ')' && top == 0;
                case BRACKET -> first == '(';
            };
            boolean inFormula = wanted.compareTo(Wanted.PART) >= 0;
            nodes += inFormula && (word || operand || "+-*/".indexOf(first) >= 0) ? 1 : 0;
            boolean opens = first == '(' || first == '-' && wanted == Wanted.PART;
            if (!fits || nodes > 40 || opens && open.size() == 20) {
                fault = fits ? 3 : 2;
                return at;
            }
            if (!inFormula) {
                wanted = wanted == Wanted.TARGET ? Wanted.EQUALS : Wanted.PART;
            } else if (function) {
                commas = text.equals("if") ? 2 : 1;
                wanted = Wanted.BRACKET;
            } else if (opens) {
                open.add(first == '-' ? -1 : wanted == Wanted.BRACKET ? commas : 0);
                wanted = Wanted.PART;
            } else if (operand || first == ')') {
                if (first == ')') {
                    open.remove(open.size() - 1);
                }
                while (!open.isEmpty() && open.get(open.size() - 1) == -1) {
                    open.remove(open.size() - 1);
                }
                wanted = Wanted.SIGN;
            } else {
                if (first == ',') {
                    open.set(open.size() - 1, top - 1);
                }
                wanted = Wanted.PART;
            }
            tokens.add(new Token(text, at));
            at = matcher.end();
        }
    }
}
