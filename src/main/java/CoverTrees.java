/**
 * A net of places and transitions, the tree of its markings in which what can be
 * repeated without end is counted as endless, and the graph of all its markings.
 */
public final class CoverTrees {
    public static final int ENDLESS = -1;
    public static final int NONE = -2;

    private static final int MOST_PLACES = 6;
    private static final int MOST_TRANSITIONS = 8;
    private static final int MOST_TOKENS = 9;
    private static final int MOST_ON_AN_ARC = 4;
    private static final int MOST_WANTED = 99;
    private static final int MOST_NODES = 100;
    private static final int MOST_STATES = 40;

    // Inside, an endless count is a number above all others (none passes 9 + 4 * 100),
    // so that plain comparisons hold for it too.
    private static final int ABOVE_ALL = 1000000;

    private final Net net;
    private final int[] target;
    private final Tree tree;
    private final Graph graph;

    public CoverTrees() {
        net = new Net();
        target = new int[MOST_PLACES];
        tree = new Tree(net);
        graph = new Graph(net);
    }

    public int place(int tokens) throws IllegalArgumentException, IllegalStateException {
        needRange(tokens, MOST_TOKENS);
        if (net.places == MOST_PLACES) {
            throw new IllegalStateException("there are all places already");
        }
        discard();
        return net.addPlace(tokens);
    }

    public int transition() throws IllegalStateException {
        if (net.transitions == MOST_TRANSITIONS) {
            throw new IllegalStateException("there are all transitions already");
        }
        discard();
        return net.addTransition();
    }

    public int arc(int place, int transition, int n, boolean gives)
            throws IndexOutOfBoundsException, IllegalArgumentException {
        needPlace(place);
        needTransition(transition);
        needRange(n, MOST_ON_AN_ARC);
        discard();
        return net.setArc(place, transition, n, gives);
    }

    public void tokens(int place, int n) throws IndexOutOfBoundsException, IllegalArgumentException {
        needPlace(place);
        needRange(n, MOST_TOKENS);
        discard();
        net.first[place] = n;
    }

    public int explore() throws UnsupportedOperationException {
        discard();
        if (!tree.grow()) {
            throw new UnsupportedOperationException("the tree has too many nodes");
        }
        return tree.size;
    }

    public int count(int node, int place) throws IllegalStateException, IndexOutOfBoundsException {
        needTree();
        needNode(node);
        needPlace(place);
        return asTold(tree.markings[node][place]);
    }

    public int node(int node, int what) throws IllegalStateException, IndexOutOfBoundsException {
        needTree();
        needNode(node);
        switch (what) {
            case 0:
                return tree.parents[node];
            case 1:
                return tree.cameBy[node];
            case 2:
                return tree.copies[node] ? 1 : 0;
            default:
                return NONE;
        }
    }

    public int bound(int place) throws IllegalStateException, IndexOutOfBoundsException {
        needTree();
        needPlace(place);
        return asTold(tree.greatestCount(place));
    }

    public void want(int place, int n) throws IndexOutOfBoundsException, IllegalArgumentException {
        needPlace(place);
        needRange(n, MOST_WANTED);
        target[place] = n;
    }

    public boolean covered() throws IllegalStateException {
        needTree();
        return tree.hasNodeCovering(target);
    }

    public boolean possible(int transition) throws IllegalStateException, IndexOutOfBoundsException {
        needTree();
        needTransition(transition);
        return tree.hasNodeEnabling(transition);
    }

    public int growth(int what) throws IllegalStateException, IllegalArgumentException {
        needTree();
        if (what < -1) {
            throw new IllegalArgumentException("what is less than -1");
        }
        if (!tree.hasEndless()) {
            return NONE;
        }
        return what == -1 ? tree.depthOfRepeat : tree.stepToFirstEndless(what);
    }

    public int graph() throws IllegalStateException, UnsupportedOperationException {
        needTree();
        if (tree.hasEndless()) {
            throw new IllegalStateException("a place is endless");
        }
        if (!graph.build()) {
            throw new UnsupportedOperationException("the graph has too many states");
        }
        return graph.size;
    }

    public int reached() throws IllegalStateException {
        needGraph();
        return graph.stateOf(target);
    }

    public int distance(int state) throws IllegalStateException, IndexOutOfBoundsException {
        needGraph();
        needState(state);
        return graph.distances[state];
    }

    public int found(int state, boolean from) throws IllegalStateException, IndexOutOfBoundsException {
        needGraph();
        needState(state);
        return from ? graph.cameFrom[state] : graph.cameBy[state];
    }

    public int stops() throws IllegalStateException {
        needGraph();
        return graph.countStops();
    }

    public boolean live(int transition) throws IllegalStateException, IndexOutOfBoundsException {
        needGraph();
        needTransition(transition);
        return graph.staysPossible(transition);
    }

    private void discard() {
        tree.size = 0;
        graph.size = 0;
    }

    private static void needRange(int n, int most) {
        if (n < 0 || n > most) {
            throw new IllegalArgumentException("a number is out of its range");
        }
    }

    private void needPlace(int place) {
        if (place < 0 || place >= net.places) {
            throw new IndexOutOfBoundsException("no such place");
        }
    }

    private void needTransition(int transition) {
        if (transition < 0 || transition >= net.transitions) {
            throw new IndexOutOfBoundsException("no such transition");
        }
    }

    private void needTree() {
        if (tree.size == 0) {
            throw new IllegalStateException("there is no tree");
        }
    }

    private void needNode(int node) {
        if (node < 0 || node >= tree.size) {
            throw new IndexOutOfBoundsException("no such node");
        }
    }

    private void needGraph() {
        if (graph.size == 0) {
            throw new IllegalStateException("there is no graph");
        }
    }

    private void needState(int state) {
        if (state < 0 || state >= graph.size) {
            throw new IndexOutOfBoundsException("no such state");
        }
    }

    private static int asTold(int count) {
        return count == ABOVE_ALL ? ENDLESS : count;
    }

    // Places that are not there count 0 in every marking, so whole rows can be compared.
    private static boolean covers(int[] marking, int[] other) {
        for (int place = 0; place < MOST_PLACES; place++) {
            if (marking[place] < other[place]) {
                return false;
            }
        }
        return true;
    }

    private static boolean same(int[] marking, int[] other) {
        for (int place = 0; place < MOST_PLACES; place++) {
            if (marking[place] != other[place]) {
                return false;
            }
        }
        return true;
    }

    private static void copyInto(int[] to, int[] marking) {
        System.arraycopy(marking, 0, to, 0, MOST_PLACES);
    }

    /** The places with their first counts, and the transitions with what they take and give. */
    private static final class Net {
        private int places;
        private int transitions;
        private final int[] first = new int[MOST_PLACES];
        private final int[][] takes = new int[MOST_TRANSITIONS][MOST_PLACES];
        private final int[][] gives = new int[MOST_TRANSITIONS][MOST_PLACES];

        int addPlace(int tokens) {
            first[places] = tokens;
            places++;
            return places - 1;
        }

        int addTransition() {
            transitions++;
            return transitions - 1;
        }

        int setArc(int place, int transition, int n, boolean giving) {
            int[] row = giving ? gives[transition] : takes[transition];
            int before = row[place];
            row[place] = n;
            return before;
        }

        boolean enables(int[] marking, int transition) {
            return covers(marking, takes[transition]);
        }

        void fire(int[] marking, int transition, int[] after) {
            for (int place = 0; place < MOST_PLACES; place++) {
                int count = marking[place];
                after[place] = count == ABOVE_ALL
                    ? count
                    : count - takes[transition][place] + gives[transition][place];
            }
        }
    }

    /** The tree of markings; of size 0 when there is none. */
    private static final class Tree {
        // Each node tries each transition once and is left once.
        private static final int MOST_STEPS = MOST_NODES * (MOST_TRANSITIONS + 1);

        private final Net net;
        private int size;
        private int firstEndless;
        private int depthOfRepeat;
        private final int[][] markings = new int[MOST_NODES][MOST_PLACES];
        private final int[] parents = new int[MOST_NODES];
        private final int[] cameBy = new int[MOST_NODES];
        private final int[] depths = new int[MOST_NODES];
        private final boolean[] copies = new boolean[MOST_NODES];

        Tree(Net net) {
            this.net = net;
        }

        /** Makes the tree, or none and answers false when it would have too many nodes. */
        boolean grow() {
            addRoot();
            int node = 0;
            int transition = 0;
            for (int step = 0; step < MOST_STEPS && node != NONE; step++) {
                if (copies[node] || transition == net.transitions) {
                    transition = cameBy[node] + 1;
                    node = parents[node];
                } else if (!net.enables(markings[node], transition)) {
                    transition++;
                } else if (size == MOST_NODES) {
                    size = 0;
                    return false;
                } else {
                    node = addChild(node, transition);
                    transition = 0;
                }
            }
            return true;
        }

        private void addRoot() {
            copyInto(markings[0], net.first);
            parents[0] = NONE;
            cameBy[0] = NONE;
            depths[0] = 0;
            copies[0] = false;
            firstEndless = NONE;
            size = 1;
        }

        private int addChild(int parent, int transition) {
            int child = size;
            net.fire(markings[parent], transition, markings[child]);
            parents[child] = parent;
            cameBy[child] = transition;
            depths[child] = depths[parent] + 1;
            makeEndlessWhatRepeats(child);
            copies[child] = isAmongEarlier(child);
            size++;
            return child;
        }

        private void makeEndlessWhatRepeats(int child) {
            int[] marking = markings[child];
            int above = parents[child];
            for (int depth = depths[child] - 1; depth >= 0; depth--) {
                int[] older = markings[above];
                if (covers(marking, older) && !same(marking, older)) {
                    makeEndlessWhereMore(marking, older);
                    noteFirstEndless(child, depth);
                }
                above = parents[above];
            }
        }

        private void makeEndlessWhereMore(int[] marking, int[] older) {
            for (int place = 0; place < MOST_PLACES; place++) {
                if (marking[place] > older[place]) {
                    marking[place] = ABOVE_ALL;
                }
            }
        }

        private void noteFirstEndless(int node, int depth) {
            if (firstEndless == NONE) {
                firstEndless = node;
                depthOfRepeat = depth;
            }
        }

        private boolean isAmongEarlier(int node) {
            for (int earlier = 0; earlier < node; earlier++) {
                if (same(markings[earlier], markings[node])) {
                    return true;
                }
            }
            return false;
        }

        boolean hasEndless() {
            return firstEndless != NONE;
        }

        /** The transition number k of the way to the first endless node; -1 behind its end. */
        int stepToFirstEndless(int k) {
            int node = firstEndless;
            if (k >= depths[node]) {
                return -1;
            }
            for (int depth = depths[node]; depth > k + 1; depth--) {
                node = parents[node];
            }
            return cameBy[node];
        }

        int greatestCount(int place) {
            int greatest = 0;
            for (int node = 0; node < size; node++) {
                greatest = Math.max(greatest, markings[node][place]);
            }
            return greatest;
        }

        boolean hasNodeCovering(int[] marking) {
            for (int node = 0; node < size; node++) {
                if (covers(markings[node], marking)) {
                    return true;
                }
            }
            return false;
        }

        boolean hasNodeEnabling(int transition) {
            return hasNodeCovering(net.takes[transition]);
        }
    }

    /** The graph of all reached markings; of size 0 when there is none. */
    private static final class Graph {
        private final Net net;
        private int size;
        private final int[][] markings = new int[MOST_STATES][MOST_PLACES];
        private final int[][] next = new int[MOST_STATES][MOST_TRANSITIONS];
        private final int[] cameFrom = new int[MOST_STATES];
        private final int[] cameBy = new int[MOST_STATES];
        private final int[] distances = new int[MOST_STATES];
        // Of each state a bit for each transition that can be enabled there or later.
        private final int[] ahead = new int[MOST_STATES];
        private final int[] fired = new int[MOST_PLACES];

        Graph(Net net) {
            this.net = net;
        }

        /** Makes the graph, or none and answers false when it would have too many states. */
        boolean build() {
            copyInto(fired, net.first);
            size = 0;
            addState(NONE, NONE, 0);
            for (int state = 0; state < MOST_STATES && state < size; state++) {
                if (!follow(state)) {
                    size = 0;
                    return false;
                }
            }
            lookAhead();
            return true;
        }

        /** Notes where each transition leads; false when a state more than may be is met. */
        private boolean follow(int state) {
            for (int transition = 0; transition < net.transitions; transition++) {
                next[state][transition] = NONE;
                if (net.enables(markings[state], transition)) {
                    net.fire(markings[state], transition, fired);
                    int after = stateOf(fired);
                    if (after == NONE) {
                        if (size == MOST_STATES) {
                            return false;
                        }
                        after = addState(state, transition, distances[state] + 1);
                    }
                    next[state][transition] = after;
                }
            }
            return true;
        }

        private int addState(int from, int transition, int distance) {
            int state = size;
            copyInto(markings[state], fired);
            cameFrom[state] = from;
            cameBy[state] = transition;
            distances[state] = distance;
            size++;
            return state;
        }

        private void lookAhead() {
            for (int state = 0; state < size; state++) {
                ahead[state] = enabledIn(state);
            }
            // No way without a circle is longer than there are states.
            boolean more = true;
            for (int round = 0; round < size && more; round++) {
                more = false;
                for (int state = 0; state < size; state++) {
                    int seen = ahead[state] | aheadOfNext(state);
                    more = more || seen != ahead[state];
                    ahead[state] = seen;
                }
            }
        }

        private int enabledIn(int state) {
            int bits = 0;
            for (int transition = 0; transition < net.transitions; transition++) {
                if (next[state][transition] != NONE) {
                    bits |= 1 << transition;
                }
            }
            return bits;
        }

        private int aheadOfNext(int state) {
            int bits = 0;
            for (int transition = 0; transition < net.transitions; transition++) {
                int after = next[state][transition];
                if (after != NONE) {
                    bits |= ahead[after];
                }
            }
            return bits;
        }

        int stateOf(int[] marking) {
            for (int state = 0; state < size; state++) {
                if (same(markings[state], marking)) {
                    return state;
                }
            }
            return NONE;
        }

        int countStops() {
            int stopped = 0;
            for (int state = 0; state < size; state++) {
                if (enabledIn(state) == 0) {
                    stopped++;
                }
            }
            return stopped;
        }

        boolean staysPossible(int transition) {
            for (int state = 0; state < size; state++) {
                if ((ahead[state] & (1 << transition)) == 0) {
                    return false;
                }
            }
            return true;
        }
    }
}
