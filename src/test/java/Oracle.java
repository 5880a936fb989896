import java.util.ArrayList;
import java.util.Arrays;
import java.util.HashMap;
import java.util.HashSet;
import java.util.List;
import java.util.Map;
import java.util.Set;
import java.math.BigInteger;

/**
 * The document over again, as slowly and plainly as can be, and by other means than the program:
 * runs are numbered with the first variable highest, diagrams are made anew for each question from
 * whole rows, orders are tried one by one, and texts are read by a machine with a stack.
 */
final class Oracle {
    static final int NONE = -1, UNKNOWN = -101, OUTSIDE = -102, STATE = -103, ROOM = -104;

    final List<Integer> sizes = new ArrayList<>();
    final List<int[]> weights = new ArrayList<>();
    final List<boolean[]> ruledOut = new ArrayList<>();
    final List<boolean[]> functions = new ArrayList<>();
    final Map<String, Integer> names = new HashMap<>();
    List<Integer> order = new ArrayList<>();
    String tape = "";
    int faultKind = 0;
    int[] told = null;
    BigInteger upper = BigInteger.ZERO, lower = BigInteger.ZERO;
    boolean[] standing = null;
    String printed = "";

    int runCount() {
        int product = 1;
        for (int size : sizes) product *= size;
        return product;
    }

    int[] runOf(int index) {
        int[] run = new int[sizes.size()];
        int rest = index;
        for (int v = run.length - 1; v >= 0; v--) {
            run[v] = rest % sizes.get(v);
            rest /= sizes.get(v);
        }
        return run;
    }

    int indexOf(int[] run) {
        int index = 0;
        for (int v = 0; v < run.length; v++) index = index * sizes.get(v) + run[v];
        return index;
    }

    interface Test { boolean so(int[] run); }

    boolean[] table(Test test) {
        boolean[] row = new boolean[runCount()];
        for (int i = 0; i < row.length; i++) row[i] = test.so(runOf(i));
        return row;
    }

    boolean at(boolean[] row, int[] run) { return row[indexOf(run)]; }

    static int[] with(int[] run, int variable, int value) {
        int[] copy = run.clone();
        copy[variable] = value;
        return copy;
    }

    boolean noVariable(int v) { return v < 0 || v >= sizes.size(); }
    boolean noFunction(int f) { return f < 0 || f >= functions.size(); }
    boolean noValue(int v, int value) { return value < 0 || value >= sizes.get(v); }
    boolean full() { return functions.size() == 40; }

    int make(Test test) {
        functions.add(table(test));
        return functions.size() - 1;
    }

    // ---- variables

    int choice(int values) {
        if (values < 2 || values > 6) return OUTSIDE;
        if (sizes.size() == 10 || runCount() * values > 1024) return ROOM;
        for (int f = 0; f < functions.size(); f++) {
            boolean[] old = functions.get(f);
            boolean[] row = new boolean[old.length * values];
            for (int i = 0; i < row.length; i++) row[i] = old[i / values];
            functions.set(f, row);
        }
        int number = sizes.size();
        sizes.add(values);
        int[] ones = new int[values];
        Arrays.fill(ones, 1);
        weights.add(ones);
        ruledOut.add(new boolean[values]);
        order.add(number);
        standing = null;
        return number;
    }

    int weight(int variable, int value, int weight) {
        if (noVariable(variable)) return UNKNOWN;
        if (noValue(variable, value) || weight < 0 || weight > 30) return OUTSIDE;
        int before = weights.get(variable)[value];
        weights.get(variable)[value] = weight;
        return before;
    }

    int rule(int variable, int value, boolean out) {
        if (noVariable(variable)) return UNKNOWN;
        if (noValue(variable, value)) return OUTSIDE;
        boolean before = ruledOut.get(variable)[value];
        ruledOut.get(variable)[value] = out;
        return before == out ? 0 : 1;
    }

    // ---- functions

    int is(int variable, int value) {
        if (noVariable(variable)) return UNKNOWN;
        if (noValue(variable, value)) return OUTSIDE;
        if (full()) return ROOM;
        return make(run -> run[variable] == value);
    }

    int compare(int one, int other, int how) {
        if (noVariable(one) || noVariable(other)) return UNKNOWN;
        if (how < 0 || how > 2) return OUTSIDE;
        if (full()) return ROOM;
        if (how == 0) return make(run -> run[one] == run[other]);
        if (how == 1) return make(run -> run[one] < run[other]);
        return make(run -> run[one] <= run[other]);
    }

    int many(int mask, int n) {
        for (int bit = 0; bit < 32; bit++) {
            if ((mask & 1 << bit) != 0 && (bit >= sizes.size() || sizes.get(bit) != 2)) return OUTSIDE;
        }
        if (full()) return ROOM;
        return make(run -> {
            int so = 0;
            for (int v = 0; v < run.length; v++) if ((mask & 1 << v) != 0 && run[v] == 1) so++;
            return so >= n;
        });
    }

    int join(int op, int one, int other) {
        if (noFunction(one) || noFunction(other)) return UNKNOWN;
        if (op < 0 || op > 5) return OUTSIDE;
        if (full()) return ROOM;
        boolean[] a = functions.get(one), b = functions.get(other);
        return make(run -> {
            boolean x = at(a, run), y = at(b, run);
            switch (op) {
                case 0: return x && y;
                case 1: return x || y;
                case 2: return x != y;
                case 3: return !x || y;
                case 4: return x == y;
                default: return x && !y;
            }
        });
    }

    int not(int function) {
        if (noFunction(function)) return UNKNOWN;
        if (full()) return ROOM;
        boolean[] f = functions.get(function);
        return make(run -> !at(f, run));
    }

    int choose(int one, int yes, int no) {
        if (noFunction(one) || noFunction(yes) || noFunction(no)) return UNKNOWN;
        if (full()) return ROOM;
        boolean[] a = functions.get(one), b = functions.get(yes), c = functions.get(no);
        return make(run -> at(a, run) ? at(b, run) : at(c, run));
    }

    int condition(int function, int variable, int value) {
        if (noFunction(function) || noVariable(variable)) return UNKNOWN;
        if (noValue(variable, value)) return OUTSIDE;
        if (full()) return ROOM;
        functions.add(conditioned(functions.get(function), variable, value));
        return functions.size() - 1;
    }

    boolean[] conditioned(boolean[] row, int variable, int value) {
        return table(run -> at(row, with(run, variable, value)));
    }

    boolean[] quantified(boolean[] row, int variable, boolean all) {
        return table(run -> {
            for (int value = 0; value < sizes.get(variable); value++) {
                if (at(row, with(run, variable, value)) != all) return !all;
            }
            return all;
        });
    }

    int quantify(int function, int variable, boolean all) {
        if (noFunction(function) || noVariable(variable)) return UNKNOWN;
        if (full()) return ROOM;
        functions.add(quantified(functions.get(function), variable, all));
        return functions.size() - 1;
    }

    int substitute(int function, int truth, int other) {
        if (noFunction(function) || noVariable(truth) || noFunction(other)) return UNKNOWN;
        if (sizes.get(truth) != 2) return STATE;
        if (full()) return ROOM;
        boolean[] f = functions.get(function), g = functions.get(other);
        return make(run -> at(f, with(run, truth, at(g, run) ? 1 : 0)));
    }

    int exchange(int function, int one, int other) {
        if (noFunction(function) || noVariable(one) || noVariable(other)) return UNKNOWN;
        if (!sizes.get(one).equals(sizes.get(other))) return STATE;
        if (full()) return ROOM;
        boolean[] f = functions.get(function);
        return make(run -> at(f, with(with(run, one, run[other]), other, run[one])));
    }

    // ---- texts

    int feed(int a, int b, int c, int d, int e) {
        if (tape.length() > 380) throw new IllegalStateException();
        StringBuilder more = new StringBuilder(tape);
        for (int word : new int[] {a, b, c, d, e}) {
            for (int i = 3; i >= 0; i--) more.append((char) (word >> 8 * i & 255));
        }
        tape = more.toString();
        return tape.length();
    }

    void end(int n) {
        if (n < 0 || n > tape.length()) throw new IllegalArgumentException();
        tape = tape.substring(0, n);
    }

    int read() {
        TextMachine machine = new TextMachine(this, tape);
        tape = "";
        int place = machine.run();
        faultKind = machine.kind;
        if (machine.kind != 0) return -1000 - place;
        for (int i = 0; i < machine.newNames.size(); i++) {
            names.put(machine.newNames.get(i), functions.size());
            functions.add(machine.newRows.get(i));
        }
        return machine.newNames.size();
    }

    int fault() { return faultKind; }

    int named() {
        String name = tape.replaceAll("^[ \n]+", "").replaceAll("[ \n]+\\z", "");
        tape = "";
        return names.containsKey(name) ? names.get(name) : STATE;
    }

    // ---- what is asked

    int runs(int function) {
        if (noFunction(function)) return UNKNOWN;
        int sum = 0;
        for (boolean so : functions.get(function)) if (so) sum++;
        return sum;
    }

    int alike(int one, int other) {
        if (noFunction(one) || noFunction(other)) return UNKNOWN;
        return Arrays.equals(functions.get(one), functions.get(other)) ? 1 : 0;
    }

    int depends(int function, int variable) {
        if (noFunction(function) || noVariable(variable)) return UNKNOWN;
        return dependsRow(functions.get(function), variable) ? 1 : 0;
    }

    boolean dependsRow(boolean[] row, int variable) {
        int below = 1;
        for (int v = variable + 1; v < sizes.size(); v++) below *= sizes.get(v);
        int size = sizes.get(variable);
        for (int i = 0; i < row.length; i++) {
            int value = i / below % size;
            if (row[i] != row[i - value * below]) return true;
        }
        return false;
    }

    boolean[] kid(boolean[] row, int variable, int value) {
        int below = 1;
        for (int v = variable + 1; v < sizes.size(); v++) below *= sizes.get(v);
        int size = sizes.get(variable);
        boolean[] made = new boolean[row.length];
        for (int i = 0; i < row.length; i++) made[i] = row[i + (value - i / below % size) * below];
        return made;
    }

    /** The first variable of an order on which a row depends; -2, -3 for leaves. */
    int variableOf(boolean[] row, List<Integer> order) {
        for (int v : order) if (dependsRow(row, v)) return v;
        return row[0] ? -3 : -2;
    }

    static String key(boolean[] row) {
        char[] key = new char[row.length];
        for (int i = 0; i < key.length; i++) key[i] = row[i] ? '1' : '0';
        return new String(key);
    }

    void gather(boolean[] row, List<Integer> order, Set<String> nodes) {
        int variable = variableOf(row, order);
        if (variable < 0 || !nodes.add(key(row))) return;
        for (int value = 0; value < sizes.get(variable); value++) gather(kid(row, variable, value), order, nodes);
    }

    int sizeOfAll(List<Integer> order) {
        Set<String> nodes = new HashSet<>();
        for (boolean[] row : functions) gather(row, order, nodes);
        return nodes.size();
    }

    int size(int function) {
        if (function == NONE) return sizeOfAll(order);
        if (noFunction(function)) return UNKNOWN;
        Set<String> nodes = new HashSet<>();
        gather(functions.get(function), order, nodes);
        return nodes.size();
    }

    int ways(int function) {
        if (noFunction(function)) return UNKNOWN;
        return waysOf(functions.get(function));
    }

    int waysOf(boolean[] row) {
        int variable = variableOf(row, order);
        if (variable < 0) return variable == -3 ? 1 : 0;
        int sum = 0;
        for (int value = 0; value < sizes.get(variable); value++) sum += waysOf(kid(row, variable, value));
        return sum;
    }

    int least(int function) {
        if (noFunction(function)) return UNKNOWN;
        boolean[] row = functions.get(function);
        for (int i = 0; i < row.length; i++) {
            if (row[i]) {
                told = runOf(i);
                return 1;
            }
        }
        return 0;
    }

    BigInteger weightOf(int[] run) {
        BigInteger product = BigInteger.ONE;
        for (int v = 0; v < run.length; v++) {
            int factor = ruledOut.get(v)[run[v]] ? 0 : weights.get(v)[run[v]];
            product = product.multiply(BigInteger.valueOf(factor));
        }
        return product;
    }

    long best(int function) {
        if (noFunction(function)) return UNKNOWN;
        boolean[] row = functions.get(function);
        BigInteger most = BigInteger.ZERO;
        for (int i = 0; i < row.length; i++) {
            if (row[i] && weightOf(runOf(i)).compareTo(most) > 0) {
                told = runOf(i);
                most = weightOf(told);
            }
        }
        return most.longValueExact();
    }

    int told(int variable) {
        if (noVariable(variable)) return UNKNOWN;
        return told == null || variable >= told.length ? STATE : told[variable];
    }

    BigInteger sum(boolean[] row) {
        BigInteger sum = BigInteger.ZERO;
        for (int i = 0; i < row.length; i++) if (row[i]) sum = sum.add(weightOf(runOf(i)));
        return sum;
    }

    int odds(int function, int given) {
        if (noFunction(function) || given != NONE && noFunction(given)) return UNKNOWN;
        boolean[] f = functions.get(function);
        boolean[] g = given == NONE ? table(run -> true) : functions.get(given);
        BigInteger whole = sum(g), both = sum(table(run -> at(f, run) && at(g, run)));
        if (whole.signum() == 0) throw new ArithmeticException();
        BigInteger divisor = both.gcd(whole);
        upper = both.divide(divisor);
        lower = whole.divide(divisor);
        return both.add(both).compareTo(whole);
    }

    long part(boolean wantsLower) { return (wantsLower ? lower : upper).longValueExact(); }

    long weigh(int function) {
        if (noFunction(function)) return UNKNOWN;
        return sum(functions.get(function)).longValueExact();
    }

    // ---- diagrams

    int enter(int function) {
        if (noFunction(function)) return UNKNOWN;
        standing = functions.get(function);
        return here();
    }

    int down(int value) {
        int variable = here();
        if (variable < 0) return STATE;
        if (noValue(variable, value)) return OUTSIDE;
        standing = kid(standing, variable, value);
        return here();
    }

    int here() { return standing == null ? NONE : variableOf(standing, order); }

    int print(int function) {
        if (noFunction(function)) return UNKNOWN;
        boolean[] root = functions.get(function);
        List<boolean[]> queue = new ArrayList<>();
        Map<String, Integer> numbers = new HashMap<>();
        List<String> parts = new ArrayList<>();
        String begin = reach(root, queue, numbers);
        for (int i = 0; i < queue.size(); i++) {
            boolean[] row = queue.get(i);
            int variable = variableOf(row, order);
            List<String> kids = new ArrayList<>();
            for (int value = 0; value < sizes.get(variable); value++) kids.add(reach(kid(row, variable, value), queue, numbers));
            parts.add((i + 2) + ":" + variable + "(" + String.join(",", kids) + ")");
        }
        printed = parts.isEmpty() ? begin : String.join(" ", parts);
        return printed.length();
    }

    String reach(boolean[] row, List<boolean[]> queue, Map<String, Integer> numbers) {
        int variable = variableOf(row, order);
        if (variable < 0) return variable == -3 ? "1" : "0";
        String key = key(row);
        if (!numbers.containsKey(key)) {
            numbers.put(key, queue.size() + 2);
            queue.add(row);
        }
        return String.valueOf(numbers.get(key));
    }

    int printed(int i) { return i < 0 || i >= printed.length() ? NONE : printed.charAt(i); }

    // ---- the order

    int place(int variable) { return noVariable(variable) ? UNKNOWN : order.indexOf(variable); }

    List<Integer> moved(int variable, int place) {
        List<Integer> changed = new ArrayList<>(order);
        changed.remove((Integer) variable);
        changed.add(place, variable);
        return changed;
    }

    int move(int variable, int place) {
        if (noVariable(variable)) return UNKNOWN;
        if (place < 0 || place >= sizes.size()) return OUTSIDE;
        standing = null;
        order = moved(variable, place);
        return sizeOfAll(order);
    }

    int seek() {
        standing = null;
        for (int v = 0; v < sizes.size(); v++) {
            List<Integer> best = null;
            int least = Integer.MAX_VALUE;
            for (int place = 0; place < sizes.size(); place++) {
                List<Integer> tried = moved(v, place);
                int size = sizeOfAll(tried);
                if (size < least) {
                    least = size;
                    best = tried;
                }
            }
            order = best;
        }
        return sizeOfAll(order);
    }
}
