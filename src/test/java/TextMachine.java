import java.util.ArrayList;
import java.util.Arrays;
import java.util.List;
import java.util.regex.Matcher;
import java.util.regex.Pattern;

/**
 * Reads a text for the oracle: tokens by patterns, formulas by two stacks (open operators, finished
 * rows), with a state that says what may come next. No recursion, and no look ahead but for the =
 * behind a variable.
 */
final class TextMachine {
    private static final Pattern TOKEN = Pattern.compile("[a-z][a-z0-9]*|[0-9]+[a-z]?|<=>|=>|[#&|^!()=:;.,]");

    static final class Token {
        String text;
        int place;
        boolean bad;
        boolean name() { return !bad && text.matches("[a-z].*") && !text.matches("true|false|some|all"); }
        boolean number() { return !bad && text.matches("[0-9].*"); }
        boolean is(String wanted) { return !bad && text.equals(wanted); }
    }

    /** An open ( ! some all, or an operator that waits for its right side. */
    static final class Open {
        final String text;
        final List<Integer> variables = new ArrayList<>();
        Open(String text) { this.text = text; }
        boolean nests() { return text.matches("\\(|!|some|all"); }
    }

    final Oracle oracle;
    final List<Token> tokens = new ArrayList<>();
    final List<String> newNames = new ArrayList<>();
    final List<boolean[]> newRows = new ArrayList<>();
    final List<Open> opens = new ArrayList<>();
    final List<boolean[]> rows = new ArrayList<>();
    int kind = 0;
    private int place = 0;

    TextMachine(Oracle oracle, String text) {
        this.oracle = oracle;
        int at = 0;
        Matcher matcher = TOKEN.matcher(text);
        while (true) {
            while (at < text.length() && (text.charAt(at) == ' ' || text.charAt(at) == '\n')) at++;
            Token token = new Token();
            token.place = at;
            tokens.add(token);
            if (at == text.length()) {
                token.text = "";
                return;
            }
            matcher.region(at, text.length());
            token.bad = !matcher.lookingAt();
            if (token.bad) return;
            token.text = matcher.group();
            token.bad = token.text.matches("[a-z].{6,}|[0-9]{4,}[a-z]?|[0-9]+[a-z]");
            if (token.bad) return;
            at = matcher.end();
        }
    }

    private void fail(int kind, Token token) {
        if (this.kind != 0) return;
        this.kind = kind;
        this.place = token.place;
    }

    private void wrong(Token token) { fail(token.bad ? 1 : 2, token); }

    private int known(String name) {
        if (newNames.contains(name)) return oracle.functions.size() + newNames.indexOf(name);
        return oracle.names.getOrDefault(name, -1);
    }

    private boolean[] rowOf(int function) {
        int old = oracle.functions.size();
        return function < old ? oracle.functions.get(function) : newRows.get(function - old);
    }

    /** The fault's place, if kind is not 0. */
    int run() {
        String state = "name";
        String giving = "";
        for (int i = 0; kind == 0; i++) {
            Token token = tokens.get(i);
            switch (state) {
                case "name":
                    if (token.is("")) return 0;
                    if (!token.name()) wrong(token);
                    else if (known(token.text) >= 0) fail(3, token);
                    else if (oracle.functions.size() + newNames.size() >= 40) fail(5, token);
                    giving = token.text;
                    state = "colon";
                    break;
                case "colon":
                    if (!token.is(":")) wrong(token);
                    state = "one";
                    break;
                case "one":
                    if (token.is("#")) {
                        i = variable(i);
                        if (i < 0) return place;
                        state = "behind";
                    } else if (token.is("some") || token.is("all")) {
                        nest(token);
                        if (kind == 0) i = variables(i);
                        if (i < 0) return place;
                    } else if (token.is("!") || token.is("(")) {
                        nest(token);
                    } else if (token.is("true") || token.is("false")) {
                        boolean so = token.is("true");
                        rows.add(oracle.table(run -> so));
                        state = "behind";
                    } else if (token.name()) {
                        int function = known(token.text);
                        if (function < 0) fail(3, token);
                        else rows.add(rowOf(function));
                        state = "behind";
                    } else {
                        wrong(token);
                    }
                    break;
                default:
                    state = behind(token, giving);
            }
        }
        return place;
    }

    private void nest(Token token) {
        long depth = opens.stream().filter(Open::nests).count();
        if (depth == 20) fail(5, token);
        opens.add(new Open(token.text));
    }

    /** The index of the last token of a variable alone or with a value, from its #; -1 with a fault. */
    private int variable(int at) {
        int number = variableNumber(at);
        if (number < 0) return -1;
        int value = 1;
        int last = at + 1;
        if (tokens.get(at + 2).is("=")) {
            last = at + 3;
            Token token = tokens.get(last);
            if (!token.number()) {
                wrong(token);
                return -1;
            }
            value = Integer.parseInt(token.text);
            if (value >= oracle.sizes.get(number)) fail(4, token);
        } else if (oracle.sizes.get(number) != 2) {
            fail(4, tokens.get(at));
        }
        int wanted = value;
        rows.add(oracle.table(run -> run[number] == wanted));
        return kind == 0 ? last : -1;
    }

    private int variableNumber(int at) {
        if (!tokens.get(at).is("#")) {
            wrong(tokens.get(at));
            return -1;
        }
        Token token = tokens.get(at + 1);
        if (!token.number()) {
            wrong(token);
            return -1;
        }
        int number = Integer.parseInt(token.text);
        if (number >= oracle.sizes.size()) fail(3, token);
        return kind == 0 ? number : -1;
    }

    /** From 'some' or 'all' to the index of its point. */
    private int variables(int at) {
        Open open = opens.get(opens.size() - 1);
        int i = at + 1;
        while (true) {
            int number = variableNumber(i);
            if (number < 0) return -1;
            open.variables.add(number);
            Token token = tokens.get(i + 2);
            if (token.is(".")) return i + 2;
            if (!token.is(",")) {
                wrong(token);
                return -1;
            }
            i += 3;
        }
    }

    private static int strength(String operator) { return Arrays.asList("<=>", "=>", "|", "^", "&").indexOf(operator); }

    private String behind(Token token, String giving) {
        int strength = token.bad ? -1 : strength(token.text);
        if (strength >= 0) {
            // => waits for more => to its right; all others are done from the left.
            close(token.text.equals("=>") ? strength + 1 : strength);
            opens.add(new Open(token.text));
            return "one";
        }
        if (token.is(")")) {
            close(0);
            if (opens.isEmpty()) {
                wrong(token);
                return "";
            }
            opens.remove(opens.size() - 1);
            return "behind";
        }
        if (token.is(";")) {
            close(0);
            if (!opens.isEmpty()) {
                wrong(token);
                return "";
            }
            newNames.add(giving);
            newRows.add(rows.remove(rows.size() - 1));
            return "name";
        }
        wrong(token);
        return "";
    }

    /** Works out what is open down to a (, as far as it binds at least so strongly. */
    private void close(int strength) {
        while (!opens.isEmpty()) {
            Open open = opens.get(opens.size() - 1);
            if (open.text.equals("(")) return;
            if (!open.nests() && strength(open.text) < strength) return;
            opens.remove(opens.size() - 1);
            boolean[] right = rows.remove(rows.size() - 1);
            if (open.text.equals("!")) {
                rows.add(oracle.table(run -> !oracle.at(right, run)));
            } else if (open.nests()) {
                boolean[] row = right;
                for (int v : open.variables) row = oracle.quantified(row, v, open.text.equals("all"));
                rows.add(row);
            } else {
                rows.add(joined(open.text, rows.remove(rows.size() - 1), right));
            }
        }
    }

    private boolean[] joined(String operator, boolean[] left, boolean[] right) {
        boolean[] made = new boolean[left.length];
        for (int i = 0; i < made.length; i++) {
            boolean a = left[i], b = right[i];
            switch (operator) {
                case "<=>": made[i] = a == b; break;
                case "=>": made[i] = !a || b; break;
                case "|": made[i] = a || b; break;
                case "^": made[i] = a != b; break;
                default: made[i] = a && b;
            }
        }
        return made;
    }
}
