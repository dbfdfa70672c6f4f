import java.util.Arrays;

/**
 * A circuit of gates with two inputs each, in which the same gate is never made twice, and none is made whose value
 * another literal has by a rule; its values are told for any setting of the inputs, and of what a value hangs.
 */
public final class GateBench {
    public static final int NONE = -1;

    private static final int MOST_NODES = 20000;
    private static final int FIRST_ROOM = 16;

    private static final int FALSE = 0;
    private static final int TRUE = 1;

    private static final int OR = 0;
    private static final int XOR = 1;

    private static final int IF = 0;
    private static final int ADD = 1;
    private static final int CARRY = 2;

    private static final int KIND = 0;
    private static final int FIRST_LITERAL = 1;
    private static final int SECOND_LITERAL = 2;
    private static final int USERS = 3;

    private static final int A_CONSTANT = 0;
    private static final int AN_INPUT = 1;
    private static final int A_GATE = 2;

    // Each row has one place a node. The literals of what is no gate are NONE.
    private int[] firsts;
    private int[] seconds;
    private int[] users;
    private int[] depths;
    private int[] values;
    private int[] marks;

    // A gate is looked for among those with a second literal of the same node: the newest of them stands at that node,
    // and the next older one at each gate. Node 0 is never a gate, so 0 ends a chain.
    private int[] newestOver;
    private int[] nextOlder;

    private int nodeCount;
    private int inputCount;

    // The gates before this node have their values in the row; a later one's is worked out when it is asked for.
    private int settledTo;

    public GateBench() {
        firsts = new int[FIRST_ROOM];
        seconds = new int[FIRST_ROOM];
        users = new int[FIRST_ROOM];
        depths = new int[FIRST_ROOM];
        values = new int[FIRST_ROOM];
        marks = new int[FIRST_ROOM];
        newestOver = new int[FIRST_ROOM];
        nextOlder = new int[FIRST_ROOM];
        firsts[0] = NONE;
        seconds[0] = NONE;
        nodeCount = 1;
        inputCount = 0;
        settledTo = 1;
    }

    public int input() throws IllegalStateException {
        int made = newNode(NONE, NONE);
        inputCount++;
        return made << 1;
    }

    public int and(int a, int b) throws IllegalArgumentException, IllegalStateException {
        needLiteral(a);
        needLiteral(b);
        return andOf(a, b);
    }

    public int join(int kind, int a, int b) throws IllegalArgumentException, IllegalStateException {
        needLiteral(a);
        needLiteral(b);
        if (kind == OR) {
            return orOf(a, b);
        }
        if (kind == XOR) {
            return xorOf(a, b);
        }
        throw new IllegalArgumentException("no such kind of two literals");
    }

    public int three(int kind, int a, int b, int c) throws IllegalArgumentException, IllegalStateException {
        needLiteral(a);
        needLiteral(b);
        needLiteral(c);
        if (kind == IF) {
            return ifOf(a, b, c);
        }
        if (kind == ADD) {
            return xorOf(xorOf(a, b), c);
        }
        if (kind == CARRY) {
            int both = andOf(a, b);
            int one = xorOf(a, b);
            return orOf(both, andOf(c, one));
        }
        throw new IllegalArgumentException("no such kind of three literals");
    }

    public boolean set(int node, boolean on) throws IllegalArgumentException {
        needInput(node);
        int wanted = on ? 1 : 0;
        if (values[node] == wanted) {
            return true;
        }
        values[node] = wanted;
        settledTo = Math.min(settledTo, node + 1);
        return false;
    }

    public boolean value(int literal) throws IllegalArgumentException {
        needLiteral(literal);
        settle(literal >> 1);
        return valueNow(literal) == 1;
    }

    public int node(int node, int what) throws IllegalArgumentException {
        needNode(node);
        if (what == KIND) {
            return kindOf(node);
        }
        if (what == FIRST_LITERAL) {
            return firsts[node];
        }
        if (what == SECOND_LITERAL) {
            return seconds[node];
        }
        if (what == USERS) {
            return users[node];
        }
        throw new IllegalArgumentException("no such thing of a node");
    }

    public int cone(int literal) throws IllegalArgumentException {
        needLiteral(literal);
        int top = literal >> 1;
        markUnder(top);
        int gates = 0;
        for (int at = 1; at <= top; at++) {
            if (marks[at] == 1 && isGate(at)) {
                gates++;
            }
        }
        return gates;
    }

    public boolean below(int node, int literal) throws IllegalArgumentException {
        needInput(node);
        needLiteral(literal);
        int top = literal >> 1;
        if (node > top) {
            return false;
        }
        markUnder(top);
        return marks[node] == 1;
    }

    public int depth(int literal) throws IllegalArgumentException {
        needLiteral(literal);
        return depths[literal >> 1];
    }

    public int nodes() {
        return nodeCount;
    }

    public int inputs() {
        return inputCount;
    }

    private void needNode(int node) {
        if (node < 0 || node >= nodeCount) {
            throw new IllegalArgumentException("no such node");
        }
    }

    private void needInput(int node) {
        needNode(node);
        if (kindOf(node) != AN_INPUT) {
            throw new IllegalArgumentException("the node is no input");
        }
    }

    private void needLiteral(int literal) {
        if (literal < 0 || literal >> 1 >= nodeCount) {
            throw new IllegalArgumentException("no such literal");
        }
    }

    private boolean isGate(int node) {
        return firsts[node] != NONE;
    }

    private int kindOf(int node) {
        if (node == 0) {
            return A_CONSTANT;
        }
        return isGate(node) ? A_GATE : AN_INPUT;
    }

    private static int not(int literal) {
        return literal ^ 1;
    }

    private static boolean isNegated(int literal) {
        return (literal & 1) == 1;
    }

    private int orOf(int a, int b) {
        return not(andOf(not(a), not(b)));
    }

    // Java works arguments out from left to right, which is the order in which the document wants the gates made.
    private int xorOf(int a, int b) {
        return orOf(andOf(a, not(b)), andOf(not(a), b));
    }

    private int ifOf(int condition, int then, int otherwise) {
        return orOf(andOf(condition, then), andOf(not(condition), otherwise));
    }

    private int andOf(int a, int b) {
        int low = Math.min(a, b);
        int high = Math.max(a, b);
        // Each turn puts a literal of an earlier node in high's place, so there are fewer turns than nodes.
        for (int turn = 0; turn < nodeCount; turn++) {
            int known = knownAnd(low, high);
            if (known != NONE) {
                return known;
            }
            int rest = restOf(low, high);
            if (rest == NONE) {
                return gateOf(low, high);
            }
            high = Math.max(low, rest);
            low = Math.min(low, rest);
        }
        return gateOf(low, high);
    }

    /**
     * The literal that a rule tells for AND of two, NONE if none does. A gate's literals are of earlier nodes than its
     * own, so of two literals in order only the greater one's gate can have the other one's node: that does for the
     * rules with both exchanged.
     */
    private int knownAnd(int low, int high) {
        if (low == FALSE || low == not(high)) {
            return FALSE;
        }
        if (low == TRUE) {
            return high;
        }
        if (low == high) {
            return low;
        }
        int gate = high >> 1;
        if (!isGate(gate)) {
            return NONE;
        }
        if (isNegated(high)) {
            return hasLiteral(gate, not(low)) ? low : NONE;
        }
        if (hasLiteral(gate, low)) {
            return high;
        }
        return hasLiteral(gate, not(low)) || isGateAgainst(low, gate) ? FALSE : NONE;
    }

    private boolean hasLiteral(int gate, int literal) {
        return firsts[gate] == literal || seconds[gate] == literal;
    }

    private boolean isGateAgainst(int literal, int gate) {
        int node = literal >> 1;
        if (isNegated(literal) || !isGate(node)) {
            return false;
        }
        return hasLiteral(gate, not(firsts[node])) || hasLiteral(gate, not(seconds[node]));
    }

    /** What is left of high, a gate negated that has low as a literal, beside low; NONE if high is no such one. */
    private int restOf(int low, int high) {
        int gate = high >> 1;
        if (!isNegated(high) || !isGate(gate)) {
            return NONE;
        }
        if (firsts[gate] == low) {
            return not(seconds[gate]);
        }
        return seconds[gate] == low ? not(firsts[gate]) : NONE;
    }

    private int gateOf(int low, int high) {
        int gate = newestOver[high >> 1];
        for (int step = 0; step < nodeCount && gate != 0; step++) {
            if (firsts[gate] == low && seconds[gate] == high) {
                return gate << 1;
            }
            gate = nextOlder[gate];
        }
        int made = newNode(low, high);
        enterGate(made, low >> 1, high >> 1);
        return made << 1;
    }

    private void enterGate(int gate, int lowNode, int highNode) {
        depths[gate] = 1 + Math.max(depths[lowNode], depths[highNode]);
        users[lowNode]++;
        users[highNode]++;
        nextOlder[gate] = newestOver[highNode];
        newestOver[highNode] = gate;
    }

    private int newNode(int first, int second) {
        if (nodeCount >= MOST_NODES) {
            throw new IllegalStateException("there is no room for another node");
        }
        if (nodeCount >= firsts.length) {
            growRows();
        }
        int made = nodeCount;
        firsts[made] = first;
        seconds[made] = second;
        nodeCount++;
        return made;
    }

    private void growRows() {
        int room = 2 * firsts.length;
        firsts = Arrays.copyOf(firsts, room);
        seconds = Arrays.copyOf(seconds, room);
        users = Arrays.copyOf(users, room);
        depths = Arrays.copyOf(depths, room);
        values = Arrays.copyOf(values, room);
        marks = Arrays.copyOf(marks, room);
        newestOver = Arrays.copyOf(newestOver, room);
        nextOlder = Arrays.copyOf(nextOlder, room);
    }

    private int valueNow(int literal) {
        return values[literal >> 1] ^ (literal & 1);
    }

    private void settle(int top) {
        for (int at = settledTo; at <= top; at++) {
            if (isGate(at)) {
                values[at] = valueNow(firsts[at]) & valueNow(seconds[at]);
            }
        }
        settledTo = Math.max(settledTo, top + 1);
    }

    /** Marks a node and all that it hangs on; one way down is enough, since a gate stands behind its literals' nodes. */
    private void markUnder(int top) {
        for (int at = 0; at < top; at++) {
            marks[at] = 0;
        }
        marks[top] = 1;
        for (int at = top; at > 0; at--) {
            if (marks[at] == 1 && isGate(at)) {
                marks[firsts[at] >> 1] = 1;
                marks[seconds[at] >> 1] = 1;
            }
        }
    }
}
