import java.util.Arrays;

/**
 * Functions of truths and choices. Each is held twice: as a row with a bit for each run, by which it
 * is made, counted and weighed, and as a root in the one diagram of all, by which it is sized, walked
 * and printed. The order of variables touches the diagram alone.
 */
public final class DiagramOdds {
    public static final int NONE = -1;
    public static final int UNKNOWN = -101, OUTSIDE = -102, STATE = -103, ROOM = -104;

    private static final int MOST_VARIABLES = 10;
    private static final int MOST_VALUES = 6;
    private static final int MOST_RUNS = 1024;
    private static final int MOST_FUNCTIONS = 40;
    private static final int MOST_WEIGHT = 30;
    private static final int WORDS = MOST_RUNS / 64;
    /** Euclid's steps for two longs are fewer than a hundred. */
    private static final int MOST_DIVISIONS = 200;

    private static final int AT_NO = -2, AT_YES = -3;

    private final Choices choices;
    private final Functions functions;
    private final Diagram diagram;
    private final Tape tape;
    private final Reader reader;
    private final Page page;
    private int standing;
    private int toldRun;
    /** How many variables the run that was told has; NONE before any. */
    private int toldVariables;
    private long upper;
    private long lower;

    public DiagramOdds() {
        choices = new Choices();
        functions = new Functions(choices);
        diagram = new Diagram(choices);
        tape = new Tape();
        reader = new Reader(tape, choices, functions);
        page = new Page();
        standing = NONE;
        toldVariables = NONE;
    }

    // ---- variables

    public int choice(int values) {
        if (values < 2 || values > MOST_VALUES) return OUTSIDE;
        if (!choices.hasRoomFor(values)) return ROOM;
        int runsBefore = choices.runCount;
        int number = choices.add(values);
        functions.spread(runsBefore);
        diagram.append(number);
        standing = NONE;
        return number;
    }

    public int weight(int variable, int value, int weight) {
        if (!choices.has(variable)) return UNKNOWN;
        if (!choices.hasValue(variable, value) || weight < 0 || weight > MOST_WEIGHT) return OUTSIDE;
        return choices.setWeight(variable, value, weight);
    }

    public int rule(int variable, int value, boolean out) {
        if (!choices.has(variable)) return UNKNOWN;
        if (!choices.hasValue(variable, value)) return OUTSIDE;
        return choices.setRuledOut(variable, value, out) ? 1 : 0;
    }

    // ---- functions

    public int is(int variable, int value) {
        if (!choices.has(variable)) return UNKNOWN;
        if (!choices.hasValue(variable, value)) return OUTSIDE;
        if (functions.isFull()) return ROOM;
        functions.markValue(functions.blank(), variable, value);
        return adopt();
    }

    public int compare(int one, int other, int how) {
        if (!choices.has(one) || !choices.has(other)) return UNKNOWN;
        if (how < 0 || how > 2) return OUTSIDE;
        if (functions.isFull()) return ROOM;
        functions.markCompared(functions.blank(), one, other, how);
        return adopt();
    }

    public int many(int mask, int n) {
        if (!choices.areTruths(mask)) return OUTSIDE;
        if (functions.isFull()) return ROOM;
        functions.markCounted(functions.blank(), mask, n);
        return adopt();
    }

    public int join(int op, int one, int other) {
        if (!functions.has(one) || !functions.has(other)) return UNKNOWN;
        if (op < Functions.BOTH || op > Functions.FIRST_ALONE) return OUTSIDE;
        if (functions.isFull()) return ROOM;
        functions.combine(functions.blank(), op, functions.row(one), functions.row(other));
        return adopt();
    }

    public int not(int function) {
        if (!functions.has(function)) return UNKNOWN;
        if (functions.isFull()) return ROOM;
        functions.combine(functions.blank(), Functions.FIRST_ALONE, functions.everything, functions.row(function));
        return adopt();
    }

    public int choose(int one, int yes, int no) {
        if (!functions.has(one) || !functions.has(yes) || !functions.has(no)) return UNKNOWN;
        if (functions.isFull()) return ROOM;
        functions.markChosen(functions.blank(), functions.row(one), functions.row(yes), functions.row(no));
        return adopt();
    }

    public int condition(int function, int variable, int value) {
        if (!functions.has(function) || !choices.has(variable)) return UNKNOWN;
        if (!choices.hasValue(variable, value)) return OUTSIDE;
        if (functions.isFull()) return ROOM;
        functions.markFixed(functions.blank(), functions.row(function), variable, value);
        return adopt();
    }

    public int quantify(int function, int variable, boolean all) {
        if (!functions.has(function) || !choices.has(variable)) return UNKNOWN;
        if (functions.isFull()) return ROOM;
        long[] into = functions.blank();
        System.arraycopy(functions.row(function), 0, into, 0, WORDS);
        functions.bind(into, variable, all);
        return adopt();
    }

    public int substitute(int function, int truth, int other) {
        if (!functions.has(function) || !choices.has(truth) || !functions.has(other)) return UNKNOWN;
        if (choices.sizeOf(truth) != 2) return STATE;
        if (functions.isFull()) return ROOM;
        functions.markReplaced(functions.blank(), functions.row(function), truth, functions.row(other));
        return adopt();
    }

    public int exchange(int function, int one, int other) {
        if (!functions.has(function) || !choices.has(one) || !choices.has(other)) return UNKNOWN;
        if (choices.sizeOf(one) != choices.sizeOf(other)) return STATE;
        if (functions.isFull()) return ROOM;
        functions.markExchanged(functions.blank(), functions.row(function), one, other);
        return adopt();
    }

    /** What stands in the next row becomes a function. */
    private int adopt() {
        int number = functions.count;
        functions.keep(diagram.build(functions.row(number), 0, 0));
        return number;
    }

    // ---- texts

    public int feed(int a, int b, int c, int d, int e) throws IllegalStateException {
        if (!tape.hasRoom()) throw new IllegalStateException("no room for twenty bytes");
        tape.addBytes(a);
        tape.addBytes(b);
        tape.addBytes(c);
        tape.addBytes(d);
        return tape.addBytes(e);
    }

    public void end(int n) throws IllegalArgumentException {
        if (n < 0 || n > tape.length) throw new IllegalArgumentException("not so many bytes");
        tape.length = n;
    }

    public int read() {
        int given = reader.readText();
        if (reader.faultKind != 0) return -1000 - reader.faultPlace;
        for (int i = 0; i < given; i++) adopt();
        return given;
    }

    public int fault() {
        return reader.faultKind;
    }

    public int named() {
        int function = reader.readName();
        return function == NONE ? STATE : function;
    }

    // ---- what is asked of functions

    public int runs(int function) {
        if (!functions.has(function)) return UNKNOWN;
        return functions.countRuns(function);
    }

    public int alike(int one, int other) {
        if (!functions.has(one) || !functions.has(other)) return UNKNOWN;
        return functions.rootOf(one) == functions.rootOf(other) ? 1 : 0;
    }

    public int depends(int function, int variable) {
        if (!functions.has(function) || !choices.has(variable)) return UNKNOWN;
        return functions.hangsOn(function, variable) ? 1 : 0;
    }

    public int size(int function) {
        if (function == NONE) return diagram.live;
        if (!functions.has(function)) return UNKNOWN;
        return diagram.countNodes(functions.rootOf(function));
    }

    public int ways(int function) {
        if (!functions.has(function)) return UNKNOWN;
        return diagram.waysFrom(functions.rootOf(function), 0);
    }

    public int least(int function) {
        if (!functions.has(function)) return UNKNOWN;
        int run = functions.firstRun(function);
        if (run == NONE) return 0;
        tell(run);
        return 1;
    }

    public long best(int function) {
        if (!functions.has(function)) return UNKNOWN;
        int run = functions.heaviestRun(function);
        if (run == NONE) return 0;
        tell(run);
        return choices.weightOfRun(run);
    }

    private void tell(int run) {
        toldRun = run;
        toldVariables = choices.count;
    }

    public int told(int variable) {
        if (!choices.has(variable)) return UNKNOWN;
        // A variable that came later would seem to be 0 in that run, so that the count must tell.
        if (variable >= toldVariables) return STATE;
        return choices.valueIn(toldRun, variable);
    }

    public int odds(int function, int given) throws ArithmeticException {
        if (!functions.has(function) || given != NONE && !functions.has(given)) return UNKNOWN;
        long[] frame = given == NONE ? functions.everything : functions.row(given);
        long whole = functions.weightOfBoth(frame, frame);
        if (whole == 0) throw new ArithmeticException("what is given has no weight");
        long both = functions.weightOfBoth(functions.row(function), frame);
        long divisor = Math.max(1L, commonDivisor(both, whole));
        upper = both / divisor;
        lower = whole / divisor;
        return Long.signum(2 * upper - lower);
    }

    private static long commonDivisor(long one, long other) {
        long a = one;
        long b = other;
        for (int i = 0; i < MOST_DIVISIONS && b != 0; i++) {
            long rest = a % b;
            a = b;
            b = rest;
        }
        return a;
    }

    public long part(boolean lower) {
        return lower ? this.lower : upper;
    }

    public long weigh(int function) {
        if (!functions.has(function)) return UNKNOWN;
        return functions.weightOfBoth(functions.row(function), functions.everything);
    }

    // ---- diagrams

    public int enter(int function) {
        if (!functions.has(function)) return UNKNOWN;
        standing = functions.rootOf(function);
        return here();
    }

    public int down(int value) {
        if (standing <= Diagram.YES) return STATE;
        if (!choices.hasValue(diagram.variableAt(standing), value)) return OUTSIDE;
        standing = diagram.kidOf(standing, value);
        return here();
    }

    public int here() {
        if (standing == NONE) return NONE;
        if (standing == Diagram.NO) return AT_NO;
        if (standing == Diagram.YES) return AT_YES;
        return diagram.variableAt(standing);
    }

    public int print(int function) {
        if (!functions.has(function)) return UNKNOWN;
        page.length = 0;
        diagram.writeNodes(functions.rootOf(function), page);
        return page.length;
    }

    public int printed(int i) {
        return page.byteAt(i);
    }

    // ---- the order

    public int place(int variable) {
        if (!choices.has(variable)) return UNKNOWN;
        return diagram.placeOf(variable);
    }

    public int move(int variable, int place) {
        if (!choices.has(variable)) return UNKNOWN;
        if (place < 0 || place >= choices.count) return OUTSIDE;
        standing = NONE;
        diagram.bring(variable, place);
        return diagram.live;
    }

    public int seek() {
        standing = NONE;
        for (int variable = 0; variable < choices.count; variable++) diagram.sift(variable);
        return diagram.live;
    }

    /**
     * The variables. A run is a number: the sum of each variable's value times its stride. The first
     * variable has the least stride, so that runs keep their numbers when a variable comes.
     */
    private static final class Choices {
        private final int[] sizes = new int[MOST_VARIABLES];
        private final int[] strides = new int[MOST_VARIABLES];
        private final int[] weights = new int[MOST_VARIABLES * MOST_VALUES];
        private final boolean[] ruledOut = new boolean[MOST_VARIABLES * MOST_VALUES];
        private final long[] runWeights = new long[MOST_RUNS];
        private boolean weighed;
        private int count;
        private int runCount;

        private Choices() {
            // They are divisors: none of them is ever 0.
            Arrays.fill(sizes, 1);
            Arrays.fill(strides, 1);
            Arrays.fill(weights, 1);
            runCount = 1;
        }

        private boolean has(int variable) {
            return variable >= 0 && variable < count;
        }

        private boolean hasValue(int variable, int value) {
            return has(variable) && value >= 0 && value < sizes[variable];
        }

        private boolean hasRoomFor(int values) {
            return count < MOST_VARIABLES && runCount * values <= MOST_RUNS;
        }

        private int add(int values) {
            int number = count;
            sizes[number] = values;
            strides[number] = runCount;
            runCount *= values;
            count++;
            weighed = false;
            return number;
        }

        private int sizeOf(int variable) {
            return variable >= 0 && variable < count ? sizes[variable] : 0;
        }

        private int strideOf(int variable) {
            return variable >= 0 && variable < count ? strides[variable] : 0;
        }

        private boolean areTruths(int mask) {
            for (int bit = 0; bit < 32; bit++) {
                if ((mask >>> bit & 1) != 0 && sizeOf(bit) != 2) return false;
            }
            return true;
        }

        private int valueIn(int run, int variable) {
            return variable >= 0 && variable < count ? run / strides[variable] % sizes[variable] : 0;
        }

        private int setWeight(int variable, int value, int weight) {
            int at = variable * MOST_VALUES + value;
            int before = weights[at];
            weights[at] = weight;
            weighed = false;
            return before;
        }

        private boolean setRuledOut(int variable, int value, boolean out) {
            int at = variable * MOST_VALUES + value;
            if (ruledOut[at] == out) return false;
            ruledOut[at] = out;
            weighed = false;
            return true;
        }

        /** The run behind this one as THE LEAST orders them: there the last variable changes first. */
        private int following(int run) {
            int next = run;
            for (int variable = count - 1; variable >= 0; variable--) {
                int value = valueIn(next, variable);
                if (value + 1 < sizes[variable]) return next + strides[variable];
                next -= value * strides[variable];
            }
            return next;
        }

        private long weightOfRun(int run) {
            weighRuns();
            return run >= 0 && run < runCount ? runWeights[run] : 0;
        }

        private void weighRuns() {
            if (weighed) return;
            runWeights[0] = 1;
            for (int variable = 0; variable < count; variable++) {
                // Value 0 comes last: its runs are those from which the others are made.
                for (int value = sizes[variable] - 1; value >= 0; value--) spreadWeight(variable, value);
            }
            weighed = true;
        }

        private void spreadWeight(int variable, int value) {
            int at = variable * MOST_VALUES + value;
            long factor = ruledOut[at] ? 0 : weights[at];
            int stride = strides[variable];
            for (int run = 0; run < stride; run++) runWeights[value * stride + run] = runWeights[run] * factor;
        }
    }

    /** The functions as rows of bits, one for each run; bits beyond the last run are 0. */
    private static final class Functions {
        private static final int BOTH = 0, EITHER = 1, ODD = 2, IMPLIED = 3, EQUAL = 4, FIRST_ALONE = 5;

        private final Choices choices;
        private final long[][] rows = new long[MOST_FUNCTIONS][WORDS];
        private final long[] names = new long[MOST_FUNCTIONS];
        private final int[] roots = new int[MOST_FUNCTIONS];
        private final long[] everything = new long[WORDS];
        private int count;
        /** Functions of a text that is being read: they stand behind the others, but are not there yet. */
        private int drafted;

        private Functions(Choices choices) {
            this.choices = choices;
            everything[0] = 1;
        }

        private static boolean so(long[] row, int run) {
            return (row[run >> 6 & WORDS - 1] >>> (run & 63) & 1) != 0;
        }

        private static void mark(long[] row, int run) {
            row[run >> 6 & WORDS - 1] |= 1L << (run & 63);
        }

        private static void unmark(long[] row, int run) {
            row[run >> 6 & WORDS - 1] &= ~(1L << (run & 63));
        }

        private boolean has(int function) {
            return function >= 0 && function < count;
        }

        private boolean isFull() {
            return count + drafted >= MOST_FUNCTIONS;
        }

        /** A number that is none stands for the function that is always so, lest an index fail. */
        private long[] row(int function) {
            return function >= 0 && function < MOST_FUNCTIONS ? rows[function] : everything;
        }

        private int rootOf(int function) {
            return has(function) ? roots[function] : Diagram.NO;
        }

        /** The row of the next function; ask isFull() first. */
        private long[] blank() {
            long[] into = row(count);
            Arrays.fill(into, 0);
            if (count < MOST_FUNCTIONS) names[count] = 0;
            return into;
        }

        private void keep(int root) {
            if (count >= MOST_FUNCTIONS) return;
            roots[count] = root;
            count++;
            drafted = Math.max(0, drafted - 1);
        }

        private void draft(long name, long[] from) {
            int number = count + drafted;
            if (number >= MOST_FUNCTIONS) return;
            System.arraycopy(from, 0, rows[number], 0, WORDS);
            names[number] = name;
            drafted++;
        }

        private int findName(long name) {
            for (int i = 0; i < count + drafted && i < MOST_FUNCTIONS; i++) {
                if (names[i] == name) return i;
            }
            return NONE;
        }

        /** A new variable does not matter to what is there: each row is repeated for its values. */
        private void spread(int runsBefore) {
            repeat(everything, runsBefore);
            for (int i = 0; i < count; i++) repeat(rows[i], runsBefore);
        }

        private void repeat(long[] row, int runsBefore) {
            for (int run = runsBefore; run < choices.runCount; run++) {
                if (so(row, run - runsBefore)) mark(row, run);
            }
        }

        private void markValue(long[] into, int variable, int value) {
            for (int run = 0; run < choices.runCount; run++) {
                if (choices.valueIn(run, variable) == value) mark(into, run);
            }
        }

        private void markCompared(long[] into, int one, int other, int how) {
            for (int run = 0; run < choices.runCount; run++) {
                int first = choices.valueIn(run, one);
                int second = choices.valueIn(run, other);
                if (how != 1 && first == second || how != 0 && first < second) mark(into, run);
            }
        }

        private void markCounted(long[] into, int mask, int n) {
            for (int run = 0; run < choices.runCount; run++) {
                int found = 0;
                for (int variable = 0; variable < choices.count; variable++) {
                    if ((mask >>> variable & 1) != 0) found += choices.valueIn(run, variable);
                }
                if (found >= n) mark(into, run);
            }
        }

        private void combine(long[] into, int op, long[] one, long[] other) {
            for (int i = 0; i < WORDS; i++) into[i] = combined(op, one[i], other[i]) & everything[i];
        }

        private static long combined(int op, long one, long other) {
            switch (op) {
                case BOTH: return one & other;
                case EITHER: return one | other;
                case ODD: return one ^ other;
                case IMPLIED: return ~one | other;
                case EQUAL: return ~(one ^ other);
                default: return one & ~other;
            }
        }

        private void markChosen(long[] into, long[] one, long[] yes, long[] no) {
            for (int i = 0; i < WORDS; i++) into[i] = one[i] & yes[i] | ~one[i] & no[i];
        }

        private void markFixed(long[] into, long[] from, int variable, int value) {
            int stride = choices.strideOf(variable);
            for (int run = 0; run < choices.runCount; run++) {
                if (so(from, run + (value - choices.valueIn(run, variable)) * stride)) mark(into, run);
            }
        }

        private void bind(long[] row, int variable, boolean all) {
            int stride = choices.strideOf(variable);
            int size = choices.sizeOf(variable);
            for (int run = 0; run < choices.runCount; run++) {
                if (choices.valueIn(run, variable) == 0) bindFrom(row, run, stride, size, all);
            }
        }

        private static void bindFrom(long[] row, int first, int stride, int size, boolean all) {
            int found = 0;
            for (int value = 0; value < size; value++) {
                if (so(row, first + value * stride)) found++;
            }
            boolean bound = all ? found == size : found > 0;
            for (int value = 0; value < size; value++) {
                if (bound) mark(row, first + value * stride);
                else unmark(row, first + value * stride);
            }
        }

        private void markReplaced(long[] into, long[] from, int truth, long[] other) {
            int stride = choices.strideOf(truth);
            for (int run = 0; run < choices.runCount; run++) {
                int wanted = so(other, run) ? 1 : 0;
                if (so(from, run + (wanted - choices.valueIn(run, truth)) * stride)) mark(into, run);
            }
        }

        private void markExchanged(long[] into, long[] from, int one, int other) {
            int strides = choices.strideOf(one) - choices.strideOf(other);
            for (int run = 0; run < choices.runCount; run++) {
                int apart = choices.valueIn(run, other) - choices.valueIn(run, one);
                if (so(from, run + apart * strides)) mark(into, run);
            }
        }

        private int countRuns(int function) {
            long[] row = row(function);
            int found = 0;
            for (int i = 0; i < WORDS; i++) found += Long.bitCount(row[i]);
            return found;
        }

        private boolean hangsOn(int function, int variable) {
            long[] row = row(function);
            int stride = choices.strideOf(variable);
            for (int run = 0; run < choices.runCount; run++) {
                int value = choices.valueIn(run, variable);
                if (value > 0 && so(row, run) != so(row, run - stride)) return true;
            }
            return false;
        }

        private int firstRun(int function) {
            long[] row = row(function);
            int run = 0;
            for (int i = 0; i < choices.runCount; i++) {
                if (so(row, run)) return run;
                run = choices.following(run);
            }
            return NONE;
        }

        private int heaviestRun(int function) {
            long[] row = row(function);
            int heaviest = NONE;
            long most = 0;
            int run = 0;
            for (int i = 0; i < choices.runCount; i++) {
                if (so(row, run) && choices.weightOfRun(run) > most) {
                    heaviest = run;
                    most = choices.weightOfRun(run);
                }
                run = choices.following(run);
            }
            return heaviest;
        }

        private long weightOfBoth(long[] one, long[] other) {
            long sum = 0;
            for (int run = 0; run < choices.runCount; run++) {
                if (so(one, run) && so(other, run)) sum += choices.weightOfRun(run);
            }
            return sum;
        }
    }

    /**
     * The diagram of all functions. There is one node for what is one, and no node that no function
     * comes to: a function's own nodes stay for ever, and those that a change of the order leaves
     * without a user are taken away at once. So the SIZE of all functions is the count of nodes.
     */
    private static final class Diagram {
        private static final int NO = 0, YES = 1;
        private static final int CHAINS = 64;
        private static final int FIRST_ROOM = 64;
        /** Far above what 40 functions of 1024 runs can need. */
        private static final int MOST_NODES = 1000000;

        private final Choices choices;
        private final int[] order = new int[MOST_VARIABLES];
        private final int[] places = new int[MOST_VARIABLES];
        /** The nodes of a variable stand in its chains; 0, which is a leaf, ends a chain. */
        private final int[] chains = new int[MOST_VARIABLES * CHAINS];
        private final int[] wanted = new int[MOST_VARIABLES * MOST_VALUES];
        private final int[] turned = new int[MOST_VALUES];
        private int[] variables = new int[FIRST_ROOM];
        private int[] users = new int[FIRST_ROOM];
        private int[] nexts = new int[FIRST_ROOM];
        private int[] numbers = new int[FIRST_ROOM];
        private int[] queue = new int[FIRST_ROOM];
        private int[] kids = new int[FIRST_ROOM * MOST_VALUES];
        private int live;
        /** The first place that never held a node, and the chain of those that hold none any more. */
        private int untouched;
        private int free;

        private Diagram(Choices choices) {
            this.choices = choices;
            variables[NO] = NONE;
            variables[YES] = NONE;
            untouched = YES + 1;
        }

        private void append(int variable) {
            if (variable < 0 || variable >= MOST_VARIABLES) return;
            order[variable] = variable;
            places[variable] = variable;
        }

        private boolean isNode(int node) {
            return node > YES && node < untouched;
        }

        private int placeOf(int variable) {
            return variable >= 0 && variable < MOST_VARIABLES ? places[variable] : NONE;
        }

        private int variableAt(int node) {
            return isNode(node) ? variables[node] : NONE;
        }

        private int kidOf(int node, int value) {
            return isNode(node) && value >= 0 && value < MOST_VALUES ? kids[node * MOST_VALUES + value] : NO;
        }

        /** The node of a row from a place of the order on, the variables before having the values of a run. */
        private int build(long[] row, int place, int run) {
            if (place >= choices.count) return Functions.so(row, run) ? YES : NO;
            int variable = order[place];
            int stride = choices.strideOf(variable);
            int from = place * MOST_VALUES;
            for (int value = 0; value < choices.sizeOf(variable); value++) {
                wanted[from + value] = build(row, place + 1, run + value * stride);
            }
            makeRoom();
            int node = nodeOf(variable, from);
            if (place == 0) users[node]++;
            return node;
        }

        /** Places for as many nodes as one node's turning may need. */
        private void makeRoom() {
            int room = variables.length;
            if (room - 2 - live >= MOST_VALUES) return;
            variables = Arrays.copyOf(variables, room * 2);
            users = Arrays.copyOf(users, room * 2);
            nexts = Arrays.copyOf(nexts, room * 2);
            numbers = Arrays.copyOf(numbers, room * 2);
            queue = Arrays.copyOf(queue, room * 2);
            kids = Arrays.copyOf(kids, room * 2 * MOST_VALUES);
        }

        /** The node of a variable that leads to what stands in wanted. */
        private int nodeOf(int variable, int from) {
            int size = choices.sizeOf(variable);
            int differing = 0;
            for (int value = 1; value < size; value++) {
                if (wanted[from + value] != wanted[from]) differing++;
            }
            if (differing == 0) return wanted[from];
            int chain = chainOf(variable, size, wanted, from);
            int node = chains[chain];
            for (int i = 0; node != 0 && i < MOST_NODES; i++) {
                if (leadsTo(node, from, size)) return node;
                node = nexts[node];
            }
            node = newNode(from, size);
            link(node, variable, chain);
            return node;
        }

        private static int chainOf(int variable, int size, int[] row, int from) {
            int hash = 0;
            for (int value = 0; value < size; value++) hash = hash * 31 + row[from + value];
            return variable * CHAINS + ((hash ^ hash >>> 6) & CHAINS - 1);
        }

        private boolean leadsTo(int node, int from, int size) {
            for (int value = 0; value < size; value++) {
                if (kids[node * MOST_VALUES + value] != wanted[from + value]) return false;
            }
            return true;
        }

        private int newNode(int from, int size) {
            int node = free;
            if (node != 0) {
                free = nexts[node];
            } else {
                node = untouched;
                untouched++;
            }
            for (int value = 0; value < size; value++) {
                kids[node * MOST_VALUES + value] = wanted[from + value];
                users[wanted[from + value]]++;
            }
            users[node] = 0;
            live++;
            return node;
        }

        private void link(int node, int variable, int chain) {
            variables[node] = variable;
            nexts[node] = chains[chain];
            chains[chain] = node;
        }

        private void unlink(int node, int variable, int size) {
            int chain = chainOf(variable, size, kids, node * MOST_VALUES);
            int before = chains[chain];
            if (before == node) {
                chains[chain] = nexts[node];
                return;
            }
            for (int i = 0; before != 0 && i < MOST_NODES; i++) {
                if (nexts[before] == node) {
                    nexts[before] = nexts[node];
                    return;
                }
                before = nexts[before];
            }
        }

        private void bring(int variable, int place) {
            for (int at = placeOf(variable); at > place; at--) swapAt(at - 1);
            for (int at = placeOf(variable); at < place; at++) swapAt(at);
        }

        private void sift(int variable) {
            bring(variable, 0);
            int best = 0;
            int least = live;
            for (int at = 1; at < choices.count; at++) {
                swapAt(at - 1);
                if (live < least) {
                    least = live;
                    best = at;
                }
            }
            bring(variable, best);
        }

        /** Two neighbours of the order change places: no nodes but theirs can change by that. */
        private void swapAt(int place) {
            if (place < 0 || place + 1 >= choices.count) return;
            int above = order[place];
            int below = order[place + 1];
            int found = gather(above, below);
            for (int i = 0; i < found; i++) {
                makeRoom();
                turn(queue[i], above, below);
            }
            order[place] = below;
            order[place + 1] = above;
            places[below] = place;
            places[above] = place + 1;
        }

        /** The nodes of one variable that lead to nodes of the other one come into the queue. */
        private int gather(int above, int below) {
            int found = 0;
            for (int chain = above * CHAINS; chain < (above + 1) * CHAINS; chain++) {
                int node = chains[chain];
                for (int i = 0; node != 0 && i < MOST_NODES; i++) {
                    if (leadsToVariable(node, above, below)) {
                        queue[found] = node;
                        found++;
                    }
                    node = nexts[node];
                }
            }
            return found;
        }

        private boolean leadsToVariable(int node, int above, int below) {
            for (int value = 0; value < choices.sizeOf(above); value++) {
                if (variables[kids[node * MOST_VALUES + value]] == below) return true;
            }
            return false;
        }

        /** A node keeps its number and what it stands for, but asks the variable below first. */
        private void turn(int node, int above, int below) {
            int from = node * MOST_VALUES;
            int sizeAbove = choices.sizeOf(above);
            int sizeBelow = choices.sizeOf(below);
            unlink(node, above, sizeAbove);
            for (int value = 0; value < sizeBelow; value++) {
                turned[value] = turnedKid(from, above, below, value);
                // Counted now, lest a release take away what is just come to.
                users[turned[value]]++;
            }
            for (int value = 0; value < sizeAbove; value++) release(kids[from + value]);
            System.arraycopy(turned, 0, kids, from, sizeBelow);
            link(node, below, chainOf(below, sizeBelow, kids, from));
        }

        private int turnedKid(int from, int above, int below, int valueBelow) {
            for (int value = 0; value < choices.sizeOf(above); value++) {
                int kid = kids[from + value];
                wanted[value] = variables[kid] == below ? kids[kid * MOST_VALUES + valueBelow] : kid;
            }
            return nodeOf(above, 0);
        }

        private void release(int node) {
            users[node]--;
            if (node <= YES || users[node] > 0) return;
            int size = choices.sizeOf(variables[node]);
            unlink(node, variables[node], size);
            // None of these is left without a user: the turned node now comes to each of them.
            for (int value = 0; value < size; value++) users[kids[node * MOST_VALUES + value]]--;
            nexts[node] = free;
            free = node;
            live--;
        }

        private int countNodes(int root) {
            int found = number(root);
            forget(found);
            return found;
        }

        /** The nodes to which a root leads come into the queue, numbered as they are come to. */
        private int number(int root) {
            if (!isNode(root)) return 0;
            int found = 1;
            queue[0] = root;
            numbers[root] = 2;
            for (int i = 0; i < found && i < queue.length; i++) {
                int node = queue[i];
                for (int value = 0; value < choices.sizeOf(variables[node]); value++) {
                    int kid = kids[node * MOST_VALUES + value];
                    if (kid <= YES || numbers[kid] != 0) continue;
                    numbers[kid] = found + 2;
                    queue[found] = kid;
                    found++;
                }
            }
            return found;
        }

        private void forget(int found) {
            for (int i = 0; i < found; i++) numbers[queue[i]] = 0;
        }

        /** No row of answers is kept: there are never more ways than runs. */
        private int waysFrom(int node, int depth) {
            if (!isNode(node) || depth >= MOST_VARIABLES) return node == YES ? 1 : 0;
            int sum = 0;
            for (int value = 0; value < choices.sizeOf(variables[node]); value++) {
                sum += waysFrom(kids[node * MOST_VALUES + value], depth + 1);
            }
            return sum;
        }

        private void writeNodes(int root, Page into) {
            if (!isNode(root)) {
                into.putNumber(root);
                return;
            }
            int found = number(root);
            for (int i = 0; i < found; i++) {
                if (i > 0) into.put(' ');
                writeNode(queue[i], into);
            }
            forget(found);
        }

        private void writeNode(int node, Page into) {
            into.putNumber(numbers[node]);
            into.put(':');
            into.putNumber(variables[node]);
            for (int value = 0; value < choices.sizeOf(variables[node]); value++) {
                int kid = kids[node * MOST_VALUES + value];
                into.put(value == 0 ? '(' : ',');
                into.putNumber(kid <= YES ? kid : numbers[kid]);
            }
            into.put(')');
        }
    }

    /** What was printed. One row for all prints, lest each of them take room. */
    private static final class Page {
        /** 1024 runs allow no diagram of 300 nodes, nor of 800 ways from node to node: that is far less. */
        private static final int MOST_PRINTED = 8192;
        private static final int HIGHEST_DIGIT = 1000;

        private final int[] bytes = new int[MOST_PRINTED];
        private int length;

        private void put(int one) {
            if (length >= MOST_PRINTED) return;
            bytes[length] = one;
            length++;
        }

        private void putNumber(int number) {
            for (int digit = HIGHEST_DIGIT; digit > 1; digit /= 10) {
                if (number >= digit) put('0' + number / digit % 10);
            }
            put('0' + number % 10);
        }

        private int byteAt(int i) {
            return i >= 0 && i < length ? bytes[i] : NONE;
        }
    }

    /** The bytes that were fed, and the tokens in them. */
    private static final class Tape {
        private static final int MOST_BYTES = 400;
        private static final int MOST_NAME = 6;
        private static final int MOST_DIGITS = 3;

        private static final String SYMBOLS = "#&|^!()=:;.,";
        /** Tokens of one byte are that byte; these are the others. */
        private static final int IMPLIES = 256, SAME = 257, NAME = 258, NUMBER = 259, TRUE = 260, FALSE = 261;
        private static final int SOME = 262, ALL = 263, END = 264, NO_TOKEN = 265;

        /** The words that are no names, packed as names are. */
        private static final long TRUE_WORD = 0x74727565L, FALSE_WORD = 0x66616c7365L;
        private static final long SOME_WORD = 0x736f6d65L, ALL_WORD = 0x616c6cL;

        private final int[] bytes = new int[MOST_BYTES];
        private final int[] kinds = new int[MOST_BYTES + 1];
        private final int[] starts = new int[MOST_BYTES + 1];
        /** What a number is; of a name its bytes, packed. */
        private final long[] contents = new long[MOST_BYTES + 1];
        private int length;
        private int position;
        private int tokens;

        private boolean hasRoom() {
            return length + 20 <= MOST_BYTES;
        }

        private int addBytes(int four) {
            for (int shift = 24; shift >= 0 && length < MOST_BYTES; shift -= 8) {
                bytes[length] = four >>> shift & 255;
                length++;
            }
            return length;
        }

        /** Uses the tape up. Nothing is looked at behind what is no token: no fault can stand there before it. */
        private void scan() {
            position = 0;
            tokens = 0;
            int latest = NONE;
            for (int i = 0; i <= MOST_BYTES && latest != END && latest != NO_TOKEN; i++) {
                while (position < length && isBlank(bytes[position])) position++;
                starts[i] = position;
                latest = scanToken(i);
                kinds[i] = latest;
                tokens++;
            }
            length = 0;
        }

        private int scanToken(int index) {
            int first = byteAt(position);
            if (first == NONE) return END;
            if (isLetter(first)) return scanWord(index);
            if (isDigit(first)) return scanNumber(index);
            return scanSymbol(first);
        }

        private int scanWord(int index) {
            int start = position;
            long word = 0;
            while (position < length && (isLetter(bytes[position]) || isDigit(bytes[position]))) {
                word = word << 8 | bytes[position];
                position++;
            }
            contents[index] = word;
            if (position - start > MOST_NAME) return NO_TOKEN;
            if (word == TRUE_WORD) return TRUE;
            if (word == FALSE_WORD) return FALSE;
            if (word == SOME_WORD) return SOME;
            return word == ALL_WORD ? ALL : NAME;
        }

        private int scanNumber(int index) {
            int start = position;
            int number = 0;
            while (position < length && isDigit(bytes[position])) {
                number = number * 10 + bytes[position] - '0';
                position++;
            }
            contents[index] = number;
            return position - start <= MOST_DIGITS && !isLetter(byteAt(position)) ? NUMBER : NO_TOKEN;
        }

        private int scanSymbol(int first) {
            int second = byteAt(position + 1);
            if (first == '=' && second == '>') {
                position += 2;
                return IMPLIES;
            }
            if (first == '<' && second == '=' && byteAt(position + 2) == '>') {
                position += 3;
                return SAME;
            }
            position++;
            return SYMBOLS.indexOf((char) first) >= 0 ? first : NO_TOKEN;
        }

        private int byteAt(int at) {
            return at >= 0 && at < length ? bytes[at] : NONE;
        }

        private static boolean isBlank(int one) {
            return one == 32 || one == 10;
        }

        private static boolean isLetter(int one) {
            return one >= 'a' && one <= 'z';
        }

        private static boolean isDigit(int one) {
            return one >= '0' && one <= '9';
        }
    }

    /**
     * Reads a text. Formulas are worked out in rows while they are read: each method leaves its row at
     * a slot and uses the slots behind for what stands to the right. Behind a fault there are no tokens
     * any more, so that all that is open ends by itself.
     */
    private static final class Reader {
        private static final int MOST_DEPTH = 20;
        /** Each of the five operators can hold a row open at each depth. */
        private static final int SLOTS = 5 * (MOST_DEPTH + 1) + 1;
        private static final int STOPPED = 266;

        private static final int NOT_A_TOKEN = 1, NOT_HERE = 2, NOT_KNOWN = 3, NO_VALUE = 4, TOO_MUCH = 5;

        private final Tape tape;
        private final Choices choices;
        private final Functions functions;
        private final long[][] slots = new long[SLOTS][WORDS];
        private int index;
        private int token;
        private int faultKind;
        private int faultPlace;

        private Reader(Tape tape, Choices choices, Functions functions) {
            this.tape = tape;
            this.choices = choices;
            this.functions = functions;
        }

        /** How many functions the text drafted; none with a fault. */
        private int readText() {
            faultKind = 0;
            rewind();
            for (int i = 0; i < Tape.MOST_BYTES && token != Tape.END && token != STOPPED; i++) readDefinition();
            if (faultKind != 0) functions.drafted = 0;
            return functions.drafted;
        }

        /** The function of the one name on the tape, or NONE. */
        private int readName() {
            rewind();
            if (tape.tokens != 2 || tape.kinds[0] != Tape.NAME || tape.kinds[1] != Tape.END) return NONE;
            return functions.findName(tape.contents[0]);
        }

        private void rewind() {
            tape.scan();
            index = 0;
            token = tape.kinds[0];
        }

        private void readDefinition() {
            long name = tape.contents[index];
            if (token != Tape.NAME) refuse(NOT_HERE, index);
            else if (functions.findName(name) != NONE) refuse(NOT_KNOWN, index);
            else if (functions.isFull()) refuse(TOO_MUCH, index);
            advance();
            expect(':');
            readFormula(0, 0);
            expect(';');
            if (faultKind == 0) functions.draft(name, slot(0));
        }

        private long[] slot(int at) {
            return slots[Math.max(0, Math.min(at, SLOTS - 1))];
        }

        private void readFormula(int depth, int at) {
            readSide(depth, at);
            for (int i = 0; i < Tape.MOST_BYTES && token == Tape.SAME; i++) {
                advance();
                readSide(depth, at + 1);
                functions.combine(slot(at), Functions.EQUAL, slot(at), slot(at + 1));
            }
        }

        /** a => b => c is so if a is not, or b is not, or c is: thus a loop does for the nesting to the right. */
        private void readSide(int depth, int at) {
            readEither(depth, at);
            if (token == Tape.IMPLIES) invert(at);
            for (int i = 0; i < Tape.MOST_BYTES && token == Tape.IMPLIES; i++) {
                advance();
                readEither(depth, at + 1);
                if (token == Tape.IMPLIES) invert(at + 1);
                functions.combine(slot(at), Functions.EITHER, slot(at), slot(at + 1));
            }
        }

        private void readEither(int depth, int at) {
            readOdd(depth, at);
            for (int i = 0; i < Tape.MOST_BYTES && token == '|'; i++) {
                advance();
                readOdd(depth, at + 1);
                functions.combine(slot(at), Functions.EITHER, slot(at), slot(at + 1));
            }
        }

        private void readOdd(int depth, int at) {
            readBoth(depth, at);
            for (int i = 0; i < Tape.MOST_BYTES && token == '^'; i++) {
                advance();
                readBoth(depth, at + 1);
                functions.combine(slot(at), Functions.ODD, slot(at), slot(at + 1));
            }
        }

        private void readBoth(int depth, int at) {
            readOne(depth, at);
            for (int i = 0; i < Tape.MOST_BYTES && token == '&'; i++) {
                advance();
                readOne(depth, at + 1);
                functions.combine(slot(at), Functions.BOTH, slot(at), slot(at + 1));
            }
        }

        private void readOne(int depth, int at) {
            switch (token) {
                case '!':
                case '(':
                case Tape.SOME:
                case Tape.ALL:
                    if (depth >= MOST_DEPTH) refuse(TOO_MUCH, index);
                    else readNested(depth + 1, at);
                    break;
                case Tape.TRUE:
                case Tape.FALSE:
                    readConstant(at);
                    break;
                case Tape.NAME:
                    readKnownName(at);
                    break;
                case '#':
                    readAtom(at);
                    break;
                default:
                    refuse(NOT_HERE, index);
            }
        }

        private void readNested(int depth, int at) {
            int opening = token;
            advance();
            if (opening == '!') {
                readOne(depth, at);
                invert(at);
            } else if (opening == '(') {
                readFormula(depth, at);
                expect(')');
            } else {
                int bound = readVariables();
                expect('.');
                readOne(depth, at);
                bindAll(at, bound, opening == Tape.ALL);
            }
        }

        private void readConstant(int at) {
            Arrays.fill(slot(at), 0);
            if (token == Tape.TRUE) invert(at);
            advance();
        }

        private void readKnownName(int at) {
            int function = functions.findName(tape.contents[index]);
            if (function == NONE) refuse(NOT_KNOWN, index);
            else System.arraycopy(functions.row(function), 0, slot(at), 0, WORDS);
            advance();
        }

        private void readAtom(int at) {
            int opening = index;
            int variable = readVariable();
            int value = 1;
            if (token == '=') {
                advance();
                value = readValue(variable);
            } else if (faultKind == 0 && choices.sizeOf(variable) != 2) {
                refuse(NO_VALUE, opening);
            }
            Arrays.fill(slot(at), 0);
            functions.markValue(slot(at), variable, value);
        }

        private int readValue(int variable) {
            int value = (int) tape.contents[index];
            if (token != Tape.NUMBER) refuse(NOT_HERE, index);
            else if (!choices.hasValue(variable, value)) refuse(NO_VALUE, index);
            advance();
            return value;
        }

        /** A list of variables as bits. */
        private int readVariables() {
            int bound = 1 << readVariable();
            for (int i = 0; i < Tape.MOST_BYTES && token == ','; i++) {
                advance();
                bound |= 1 << readVariable();
            }
            return bound;
        }

        private int readVariable() {
            expect('#');
            int variable = (int) tape.contents[index];
            if (token != Tape.NUMBER) refuse(NOT_HERE, index);
            else if (!choices.has(variable)) refuse(NOT_KNOWN, index);
            advance();
            return variable;
        }

        private void invert(int at) {
            functions.combine(slot(at), Functions.FIRST_ALONE, functions.everything, slot(at));
        }

        private void bindAll(int at, int bound, boolean all) {
            for (int variable = 0; variable < choices.count; variable++) {
                if ((bound >>> variable & 1) != 0) functions.bind(slot(at), variable, all);
            }
        }

        private void expect(int wanted) {
            if (token == wanted) advance();
            else refuse(NOT_HERE, index);
        }

        /** Keeps the first fault. What is no token is never looked for, so that it always comes here as NOT_HERE. */
        private void refuse(int kind, int at) {
            token = STOPPED;
            if (faultKind != 0) return;
            faultKind = kind == NOT_HERE && tape.kinds[at] == Tape.NO_TOKEN ? NOT_A_TOKEN : kind;
            faultPlace = tape.starts[at];
        }

        private void advance() {
            if (faultKind != 0 || index + 1 >= tape.tokens) {
                token = STOPPED;
                return;
            }
            index++;
            token = tape.kinds[index];
        }
    }
}
