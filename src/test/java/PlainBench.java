import java.util.ArrayList;
import java.util.List;
import java.util.Set;
import java.util.TreeSet;

/** The document's words in their plainest form, without any thought of speed: what GateBench is held against. */
final class PlainBench {
    private final List<int[]> gates = new ArrayList<>();
    private final List<Boolean> settings = new ArrayList<>();

    PlainBench() {
        add(null);
    }

    private int add(int[] literals) {
        gates.add(literals);
        settings.add(false);
        return 2 * (gates.size() - 1);
    }

    private void need(boolean right) {
        if (!right) {
            throw new IllegalArgumentException();
        }
    }

    private boolean isLiteral(int literal) {
        return literal >= 0 && literal < 2 * gates.size();
    }

    private boolean isInput(int node) {
        return node >= 1 && node < gates.size() && gates.get(node) == null;
    }

    int input() {
        return add(null);
    }

    int and(int a, int b) {
        need(isLiteral(a) && isLiteral(b));
        for (int rule = 1; rule <= 10; rule++) {
            Integer answer = fits(rule, a, b);
            if (answer == null) {
                answer = fits(rule, b, a);
            }
            if (answer != null) {
                return answer;
            }
        }
        for (int node = 1; node < gates.size(); node++) {
            int[] has = gates.get(node);
            if (has != null && has[0] == Math.min(a, b) && has[1] == Math.max(a, b)) {
                return 2 * node;
            }
        }
        return add(new int[] {Math.min(a, b), Math.max(a, b)});
    }

    private Integer fits(int rule, int a, int b) {
        int[] of = gates.get(a / 2);
        boolean plain = of != null && a % 2 == 0;
        boolean negated = of != null && a % 2 == 1;
        int x = of == null ? -8 : of[0];
        int y = of == null ? -8 : of[1];
        switch (rule) {
            case 1: return a == 0 ? 0 : null;
            case 2: return a == 1 ? b : null;
            case 3: return a == b ? a : null;
            case 4: return a == (b ^ 1) ? 0 : null;
            case 5: return plain && (b == x || b == y) ? a : null;
            case 6: return plain && (b == (x ^ 1) || b == (y ^ 1)) ? 0 : null;
            case 7: return negated && (b == (x ^ 1) || b == (y ^ 1)) ? b : null;
            case 8: return negated && b == x ? and(x, y ^ 1) : null;
            case 9: return negated && b == y ? and(y, x ^ 1) : null;
            default: return plain && against(of, b) ? 0 : null;
        }
    }

    private boolean against(int[] of, int b) {
        int[] other = gates.get(b / 2);
        if (other == null || b % 2 == 1) {
            return false;
        }
        for (int mine : of) {
            if (other[0] == (mine ^ 1) || other[1] == (mine ^ 1)) {
                return true;
            }
        }
        return false;
    }

    private int or(int a, int b) {
        return and(a ^ 1, b ^ 1) ^ 1;
    }

    private int xor(int a, int b) {
        int former = and(a, b ^ 1);
        int latter = and(a ^ 1, b);
        return or(former, latter);
    }

    int join(int kind, int a, int b) {
        need((kind == 0 || kind == 1) && isLiteral(a) && isLiteral(b));
        return kind == 0 ? or(a, b) : xor(a, b);
    }

    int three(int kind, int a, int b, int c) {
        need(kind >= 0 && kind <= 2 && isLiteral(a) && isLiteral(b) && isLiteral(c));
        if (kind == 1) {
            return xor(xor(a, b), c);
        }
        int former = and(a, b);
        int latter = kind == 0 ? and(a ^ 1, c) : and(c, xor(a, b));
        return or(former, latter);
    }

    boolean set(int node, boolean on) {
        need(isInput(node));
        return settings.set(node, on) == on;
    }

    boolean value(int literal) {
        need(isLiteral(literal));
        boolean[] values = new boolean[gates.size()];
        for (int node = 0; node < values.length; node++) {
            int[] has = gates.get(node);
            values[node] = has == null ? settings.get(node)
                : (values[has[0] / 2] ^ has[0] % 2 == 1) && (values[has[1] / 2] ^ has[1] % 2 == 1);
        }
        return values[literal / 2] ^ literal % 2 == 1;
    }

    int node(int node, int what) {
        need(node >= 0 && node < gates.size() && what >= 0 && what <= 3);
        int[] has = gates.get(node);
        if (what == 0) {
            return node == 0 ? 0 : has == null ? 1 : 2;
        }
        if (what < 3) {
            return has == null ? -1 : has[what - 1];
        }
        return (int) gates.stream().filter(g -> g != null && (g[0] / 2 == node || g[1] / 2 == node)).count();
    }

    private Set<Integer> under(int node) {
        Set<Integer> seen = new TreeSet<>();
        List<Integer> open = new ArrayList<>(List.of(node));
        while (!open.isEmpty()) {
            int at = open.remove(open.size() - 1);
            if (seen.add(at) && gates.get(at) != null) {
                open.add(gates.get(at)[0] / 2);
                open.add(gates.get(at)[1] / 2);
            }
        }
        return seen;
    }

    int cone(int literal) {
        need(isLiteral(literal));
        return (int) under(literal / 2).stream().filter(n -> gates.get(n) != null).count();
    }

    boolean below(int node, int literal) {
        need(isInput(node) && isLiteral(literal));
        return under(literal / 2).contains(node);
    }

    int depth(int literal) {
        need(isLiteral(literal));
        int[] depths = new int[gates.size()];
        for (int node : under(literal / 2)) {
            int[] has = gates.get(node);
            depths[node] = has == null ? 0 : 1 + Math.max(depths[has[0] / 2], depths[has[1] / 2]);
        }
        return depths[literal / 2];
    }

    int nodes() {
        return gates.size();
    }

    int inputs() {
        return (int) gates.stream().filter(g -> g == null).count() - 1;
    }
}
