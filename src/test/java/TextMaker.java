import java.util.ArrayList;
import java.util.List;
import java.util.Random;

/** Texts of the grammar, picked at random, and now and then spoiled at one token or byte. */
final class TextMaker {
    private static final String[] TOKENS = {
        "#", "&", "|", "^", "!", "(", ")", "=", ":", ";", ".", ",", "=>", "<=>", "true", "false", "some", "all",
        "a", "b1", "abcdef", "abcdefg", "0", "12", "007", "1000", "1a", "<", "<=", ">", "@", "A", "\t", "\u00e4", "\0", "zz"};

    private final Random random;
    private final Oracle oracle;
    private final List<String> made = new ArrayList<>();
    private final List<String> tokens = new ArrayList<>();

    TextMaker(Random random, Oracle oracle) {
        this.random = random;
        this.oracle = oracle;
    }

    private int pick(int n) { return random.nextInt(n); }

    private boolean odd() { return pick(40) == 0; }

    private String blank() { return pick(3) == 0 ? " " : pick(20) == 0 ? "\n \n" : ""; }

    private String freshName() {
        String name = "" + (char) ('a' + pick(26));
        for (int i = pick(3); i > 0; i--) name += pick(2) == 0 ? (char) ('a' + pick(26)) : (char) ('0' + pick(10));
        return name;
    }

    private String someName() {
        List<String> all = new ArrayList<>(made);
        all.addAll(oracle.names.keySet());
        java.util.Collections.sort(all);
        return all.isEmpty() || odd() ? freshName() : all.get(pick(all.size()));
    }

    private int variable() {
        int n = oracle.sizes.size();
        return n == 0 || odd() ? pick(12) : pick(n);
    }

    private void add(String... more) {
        for (String one : more) tokens.add(one);
    }

    private void atom() {
        int v = variable();
        add("#", pick(10) == 0 ? "0" + v : "" + v);
        boolean truth = v < oracle.sizes.size() && oracle.sizes.get(v) == 2;
        int size = v < oracle.sizes.size() ? oracle.sizes.get(v) : 3;
        if (!truth && !odd() || pick(4) == 0) add("=", "" + pick(size + (odd() ? 1 : 0)));
    }

    private void one(int depth) {
        switch (pick(depth > 0 ? 10 : 5)) {
            case 0: add(pick(2) == 0 ? "true" : "false"); break;
            case 1: add(someName()); break;
            case 5: add("!"); one(depth - 1); break;
            case 6:
            case 7:
            case 8: add("("); formula(depth - 1); add(")"); break;
            case 9:
                add(pick(2) == 0 ? "some" : "all", "#", "" + variable());
                while (pick(3) == 0) add(",", "#", "" + variable());
                add(".");
                one(depth - 1);
                break;
            default: atom();
        }
    }

    private void formula(int depth) {
        String[] operators = {"&", "|", "^", "=>", "<=>", "&"};
        one(depth);
        for (int i = pick(4); i > 0; i--) {
            add(operators[pick(operators.length)]);
            one(depth);
        }
    }

    private void deep() {
        int levels = 18 + pick(5);
        int closing = 0;
        for (int i = 0; i < levels; i++) {
            int kind = pick(4);
            if (kind == 0 && !oracle.sizes.isEmpty()) {
                add(pick(2) == 0 ? "some" : "all", "#", "" + pick(oracle.sizes.size()), ".");
            } else if (kind == 1) {
                add("(");
                closing++;
            } else {
                add("!");
            }
        }
        one(0);
        for (int i = 0; i < closing; i++) add(")");
    }

    private void spoil() {
        int at = pick(tokens.size());
        String other = TOKENS[pick(TOKENS.length)];
        switch (pick(4)) {
            case 0: tokens.set(at, other); break;
            case 1: tokens.add(at, other); break;
            case 2: tokens.remove(at); break;
            default: while (tokens.size() > at) tokens.remove(tokens.size() - 1);
        }
    }

    String text() {
        for (int i = pick(4); i > 0; i--) {
            String name = odd() ? someName() : freshName();
            add(name, ":");
            if (pick(15) == 0) deep();
            else formula(pick(4));
            add(";");
            made.add(name);
        }
        if (!tokens.isEmpty() && pick(3) == 0) spoil();
        StringBuilder text = new StringBuilder();
        String before = "";
        for (String token : tokens) {
            text.append(blank());
            boolean apart = before.matches(".*[a-z0-9]") && token.matches("[a-z0-9].*");
            if (apart && !odd()) text.append(' ');
            text.append(token);
            before = token;
        }
        text.append(blank());
        return text.length() > 400 ? text.substring(0, 400) : text.toString();
    }

    String lonelyName() {
        switch (pick(8)) {
            case 0: return TOKENS[pick(TOKENS.length)];
            case 1: return someName() + " " + someName();
            case 2: return "";
            default: return blank() + someName() + blank();
        }
    }
}
