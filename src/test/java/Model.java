import java.util.ArrayList;
import java.util.HashMap;
import java.util.LinkedHashMap;
import java.util.List;
import java.util.Map;

/**
 * A second program of the same document, written another way (recursion, lists, maps, and
 * the plain definitions where they can be followed), to hold CoverTrees against.
 */
final class Model {
    private static final long OMEGA = Long.MAX_VALUE;

    private static final class Node {
        Node parent;
        int number;
        int by = -2;
        boolean copy;
        Node repeats;
        List<Long> marking;
    }

    private static final class TooMany extends Exception {
        private static final long serialVersionUID = 1L;
    }

    private final List<Long> first = new ArrayList<>();
    private final List<Long> target = new ArrayList<>();
    private final List<Map<Integer, Integer>> takes = new ArrayList<>();
    private final List<Map<Integer, Integer>> gives = new ArrayList<>();
    private List<Node> tree;
    private List<List<Long>> states;
    private List<int[]> foundAs;
    private List<int[]> edges;

    private static void range(long n, long most) {
        if (n < 0 || n > most) {
            throw new IllegalArgumentException();
        }
    }

    private static void index(int n, int size) {
        if (n < 0 || n >= size) {
            throw new IndexOutOfBoundsException();
        }
    }

    private static void state(boolean there) {
        if (!there) {
            throw new IllegalStateException();
        }
    }

    private void change() {
        tree = null;
        states = null;
    }

    int place(int tokens) {
        range(tokens, 9);
        state(first.size() < 6);
        change();
        first.add((long) tokens);
        target.add(0L);
        return first.size() - 1;
    }

    int transition() {
        state(takes.size() < 8);
        change();
        takes.add(new HashMap<>());
        gives.add(new HashMap<>());
        return takes.size() - 1;
    }

    int arc(int place, int transition, int n, boolean give) {
        index(place, first.size());
        index(transition, takes.size());
        range(n, 4);
        change();
        Integer before = (give ? gives : takes).get(transition).put(place, n);
        return before == null ? 0 : before;
    }

    void tokens(int place, int n) {
        index(place, first.size());
        range(n, 9);
        change();
        first.set(place, (long) n);
    }

    int explore() {
        change();
        List<Node> nodes = new ArrayList<>();
        Node root = new Node();
        root.marking = new ArrayList<>(first);
        nodes.add(root);
        try {
            expand(root, nodes);
        } catch (TooMany e) {
            throw new UnsupportedOperationException();
        }
        tree = nodes;
        return nodes.size();
    }

    private void expand(Node node, List<Node> nodes) throws TooMany {
        for (int t = 0; t < takes.size(); t++) {
            List<Long> after = fired(node.marking, t);
            if (after == null) {
                continue;
            }
            if (nodes.size() == 100) {
                throw new TooMany();
            }
            Node child = new Node();
            child.parent = node;
            child.by = t;
            child.number = nodes.size();
            child.marking = after;
            for (Node up = node; up != null; up = up.parent) {
                if (widen(child.marking, up.marking) && child.repeats == null) {
                    child.repeats = up;
                }
            }
            for (Node other : nodes) {
                child.copy |= other.marking.equals(child.marking);
            }
            nodes.add(child);
            if (!child.copy) {
                expand(child, nodes);
            }
        }
    }

    private static boolean widen(List<Long> marking, List<Long> older) {
        List<Integer> more = new ArrayList<>();
        for (int p = 0; p < marking.size(); p++) {
            if (older.get(p) > marking.get(p)) {
                return false;
            }
            if (older.get(p) < marking.get(p)) {
                more.add(p);
            }
        }
        for (int p : more) {
            marking.set(p, OMEGA);
        }
        return !more.isEmpty();
    }

    private List<Long> fired(List<Long> marking, int t) {
        List<Long> after = new ArrayList<>();
        for (int p = 0; p < marking.size(); p++) {
            long count = marking.get(p);
            int take = takes.get(t).getOrDefault(p, 0);
            if (count < take) {
                return null;
            }
            after.add(count == OMEGA ? OMEGA : count - take + gives.get(t).getOrDefault(p, 0));
        }
        return after;
    }

    private static int told(long count) {
        return count == OMEGA ? -1 : (int) count;
    }

    int count(int node, int place) {
        state(tree != null);
        index(node, tree.size());
        index(place, first.size());
        return told(tree.get(node).marking.get(place));
    }

    int node(int node, int what) {
        state(tree != null);
        index(node, tree.size());
        Node n = tree.get(node);
        if (what == 2) {
            return n.copy ? 1 : 0;
        }
        if (n.parent == null || what < 0 || what > 2) {
            return -2;
        }
        return what == 0 ? n.parent.number : n.by;
    }

    private Node firstEndless() {
        for (Node n : tree) {
            if (n.marking.contains(OMEGA)) {
                return n;
            }
        }
        return null;
    }

    /** The reached markings where they are finitely many, else the markings of the tree. */
    private List<List<Long>> met() {
        List<List<Long>> met = new ArrayList<>();
        if (firstEndless() != null) {
            for (Node n : tree) {
                met.add(n.marking);
            }
            return met;
        }
        met.addAll(allReached(new ArrayList<>(), 1000));
        return met;
    }

    private List<List<Long>> allReached(List<int[]> ways, int most) {
        Map<List<Long>, Integer> numbers = new LinkedHashMap<>();
        List<List<Long>> reached = new ArrayList<>();
        reached.add(new ArrayList<>(first));
        numbers.put(reached.get(0), 0);
        ways.add(new int[] {-2, -2, 0});
        for (int s = 0; s < reached.size() && reached.size() <= most; s++) {
            for (int t = 0; t < takes.size(); t++) {
                List<Long> after = fired(reached.get(s), t);
                if (after != null && !numbers.containsKey(after)) {
                    numbers.put(after, reached.size());
                    reached.add(after);
                    ways.add(new int[] {t, s});
                }
            }
        }
        return reached;
    }

    int bound(int place) {
        state(tree != null);
        index(place, first.size());
        long most = 0;
        for (List<Long> m : met()) {
            most = Math.max(most, m.get(place));
        }
        return told(most);
    }

    void want(int place, int n) {
        index(place, first.size());
        range(n, 99);
        target.set(place, (long) n);
    }

    boolean covered() {
        state(tree != null);
        for (List<Long> m : met()) {
            boolean all = true;
            for (int p = 0; p < m.size(); p++) {
                all &= m.get(p) >= target.get(p);
            }
            if (all) {
                return true;
            }
        }
        return false;
    }

    boolean possible(int transition) {
        state(tree != null);
        index(transition, takes.size());
        for (List<Long> m : met()) {
            if (fired(m, transition) != null) {
                return true;
            }
        }
        return false;
    }

    int growth(int what) {
        state(tree != null);
        range(what < -1 ? -1 : 0, 0);
        Node end = firstEndless();
        if (end == null) {
            return -2;
        }
        if (what == -1) {
            return way(end.repeats).size();
        }
        List<Integer> way = way(end);
        return what < way.size() ? way.get(what) : -1;
    }

    private static List<Integer> way(Node node) {
        List<Integer> way = new ArrayList<>();
        for (Node n = node; n.parent != null; n = n.parent) {
            way.add(0, n.by);
        }
        return way;
    }

    int graph() {
        state(tree != null && firstEndless() == null);
        states = null;
        List<int[]> ways = new ArrayList<>();
        List<List<Long>> reached = allReached(ways, 40);
        if (reached.size() > 40) {
            throw new UnsupportedOperationException();
        }
        states = reached;
        foundAs = ways;
        edges = allEdges();
        return states.size();
    }

    int reached() {
        state(states != null);
        int number = states.indexOf(target);
        return number < 0 ? -2 : number;
    }

    int distance(int state) {
        state(states != null);
        index(state, states.size());
        return distancesFrom(0)[state];
    }

    /** The least firings from a state to each, by relaxing every edge until nothing changes. */
    private int[] distancesFrom(int start) {
        int[] far = new int[states.size()];
        java.util.Arrays.fill(far, 1000);
        far[start] = 0;
        boolean nearer = true;
        while (nearer) {
            nearer = false;
            for (int[] edge : edges) {
                if (far[edge[0]] + 1 < far[edge[1]]) {
                    far[edge[1]] = far[edge[0]] + 1;
                    nearer = true;
                }
            }
        }
        return far;
    }

    private List<int[]> allEdges() {
        List<int[]> all = new ArrayList<>();
        for (int s = 0; s < states.size(); s++) {
            for (int t = 0; t < takes.size(); t++) {
                List<Long> after = fired(states.get(s), t);
                if (after != null) {
                    all.add(new int[] {s, states.indexOf(after)});
                }
            }
        }
        return all;
    }

    int found(int state, boolean from) {
        state(states != null);
        index(state, states.size());
        return foundAs.get(state)[from ? 1 : 0];
    }

    int stops() {
        state(states != null);
        int stopped = 0;
        for (List<Long> m : states) {
            boolean can = false;
            for (int t = 0; t < takes.size(); t++) {
                can |= fired(m, t) != null;
            }
            stopped += can ? 0 : 1;
        }
        return stopped;
    }

    boolean live(int transition) {
        state(states != null);
        index(transition, takes.size());
        for (int s = 0; s < states.size(); s++) {
            int[] far = distancesFrom(s);
            boolean can = false;
            for (int to = 0; to < far.length; to++) {
                can |= far[to] < 1000 && fired(states.get(to), transition) != null;
            }
            if (!can) {
                return false;
            }
        }
        return true;
    }

    /** Whether the way that growth() tells can be fired, and its end again and again, with gain. */
    boolean growsByRepeating() {
        state(tree != null);
        Node end = firstEndless();
        if (end == null) {
            return false;
        }
        List<Integer> way = way(end);
        int before = way(end.repeats).size();
        List<Long> marking = new ArrayList<>(first);
        for (int k = 0; k < before; k++) {
            marking = fired(marking, way.get(k));
            if (marking == null) {
                return false;
            }
        }
        for (int round = 0; round < 20; round++) {
            List<Long> older = marking;
            for (int k = before; k < way.size(); k++) {
                marking = fired(marking, way.get(k));
                if (marking == null) {
                    return false;
                }
            }
            if (!widen(new ArrayList<>(marking), older)) {
                return false;
            }
        }
        return true;
    }

    /** The first markings that come: all, or some hundreds where there are more. */
    List<List<Long>> someReached() {
        return allReached(new ArrayList<>(), 300);
    }

    boolean enabled(List<Long> marking, int transition) {
        return fired(marking, transition) != null;
    }
}
