/** The nets that the tests use; each new. */
final class Nets {
    private Nets() {
    }

    static CoverTrees withPlaces(int... tokens) {
        CoverTrees x = new CoverTrees();
        for (int n : tokens) {
            x.place(n);
        }
        return x;
    }

    static CoverTrees withTree(CoverTrees x) {
        x.explore();
        return x;
    }

    static CoverTrees withGraph(CoverTrees x) {
        x.explore();
        x.graph();
        return x;
    }

    /** Adds a transition; the rows tell for each place what it takes and what it gives. */
    static int add(CoverTrees x, int[] takes, int[] gives) {
        int t = x.transition();
        for (int p = 0; p < takes.length; p++) {
            x.arc(p, t, takes[p], false);
            x.arc(p, t, gives[p], true);
        }
        return t;
    }

    static int[] row(int... counts) {
        return counts;
    }

    /** Two tokens that each go to the third place, in either order: 5 nodes, 4 states. */
    static CoverTrees diamond() {
        CoverTrees x = withPlaces(1, 1, 0);
        add(x, row(1, 0, 0), row(0, 0, 1));
        add(x, row(0, 1, 0), row(0, 0, 1));
        return x;
    }

    /** A token goes to place 1, and there gives place 2 more and more: 4 nodes. */
    static CoverTrees growing() {
        CoverTrees x = withPlaces(1, 0, 0);
        add(x, row(1, 0, 0), row(0, 1, 0));
        add(x, row(0, 1, 0), row(0, 1, 1));
        return x;
    }

    /** A token goes round two places: 3 nodes, 2 states. */
    static CoverTrees ring() {
        CoverTrees x = withPlaces(1, 0);
        add(x, row(1, 0), row(0, 1));
        add(x, row(0, 1), row(1, 0));
        return x;
    }

    /**
     * The tokens of places 0 and 1 are taken one by one, in any order, but only when all of
     * lead (at most 4) have gone from place 2 to 3: lead + (a + 1)(b + 1) states, and
     * lead + 1 + a(b + 1) + b(a + 1) nodes.
     */
    static CoverTrees grid(int a, int b, int lead) {
        CoverTrees x = withPlaces(a, b, lead, 0);
        add(x, row(1, 0, 0, lead), row(0, 0, 0, lead));
        add(x, row(0, 1, 0, lead), row(0, 0, 0, lead));
        add(x, row(0, 0, 1, 0), row(0, 0, 0, 1));
        return x;
    }

    /** All 6 places and all 8 transitions: a ring, and transitions that are never enabled. */
    static CoverTrees full() {
        CoverTrees x = withPlaces(1, 0, 0, 0, 0, 0);
        move(x, 0, 1);
        move(x, 1, 0);
        for (int t = 2; t < 8; t++) {
            x.arc(5, x.transition(), 1, false);
        }
        return x;
    }

    /** Adds a transition that moves a token from one place to another. */
    static int move(CoverTrees x, int from, int to) {
        int t = x.transition();
        x.arc(from, t, 1, false);
        x.arc(to, t, 1, true);
        return t;
    }

    /**
     * Never more than one transition enabled, so that nodes and states are one chain: rounds
     * of 11 firings (transition 0, 4 times 1, 2, 4 times 3, 4), one for each token of place 0.
     * Counts (n, 1, 0, 0, 0, 0) are the start of n rounds, (n, 0, 0, 0, 0, 4) one firing more.
     */
    static CoverTrees chain(int... tokens) {
        CoverTrees x = withPlaces(tokens);
        add(x, row(1, 1, 0, 0, 0, 0), row(0, 0, 4, 0, 0, 0));
        add(x, row(0, 0, 1, 0, 0, 0), row(0, 0, 0, 1, 0, 0));
        add(x, row(0, 0, 0, 4, 0, 0), row(0, 0, 0, 0, 4, 0));
        add(x, row(0, 0, 0, 0, 1, 0), row(0, 0, 0, 0, 0, 1));
        add(x, row(0, 0, 0, 0, 0, 4), row(0, 1, 0, 0, 0, 0));
        return x;
    }

    /**
     * A chain as well, of rounds of 6 firings, one for each token of place 0, each of which
     * gives place 4 so many more: 6 * rounds + 1 nodes and states.
     */
    static CoverTrees heap(int rounds, int tokens, int more) {
        CoverTrees x = withPlaces(rounds, 1, 0, 0, tokens);
        add(x, row(1, 1, 0, 0, 0), row(0, 0, 4, 0, more));
        add(x, row(0, 0, 1, 0, 0), row(0, 0, 0, 1, more));
        add(x, row(0, 0, 0, 4, 0), row(0, 1, 0, 0, more));
        return x;
    }

    /**
     * The chain of 4 rounds of 6 firings; each round gives place 4 one more, and only at the
     * end of the last is transition 3, which takes 4 of them, enabled.
     */
    static CoverTrees lateLast() {
        CoverTrees x = withPlaces(4, 1, 0, 0, 0);
        add(x, row(1, 1, 0, 0, 0), row(0, 0, 4, 0, 0));
        add(x, row(0, 0, 1, 0, 0), row(0, 0, 0, 1, 0));
        add(x, row(0, 0, 0, 4, 0), row(0, 1, 0, 0, 1));
        add(x, row(0, 0, 0, 0, 4), row(0, 0, 0, 0, 4));
        return x;
    }
}
