/** The nets that the tests use; each new. */
final class Nets {
    private Nets() {
    }

    static CoverTrees withPlaces(int... tokens) {
        CoverTrees x = new CoverTrees();
        for (int n : tokens) {
            x.place(n);
        }
        return x;
    }

    /** Adds a transition; the rows tell for each place what it takes and what it gives. */
    static int add(CoverTrees x, int[] takes, int[] gives) {
        int t = x.transition();
        for (int p = 0; p < takes.length; p++) {
            x.arc(p, t, takes[p], false);
            x.arc(p, t, gives[p], true);
        }
        return t;
    }

    static int[] row(int... counts) {
        return counts;
    }

    /** Two tokens that each go to the third place, in either order: 5 nodes, 4 states. */
    static CoverTrees diamond() {
        CoverTrees x = withPlaces(1, 1, 0);
        add(x, row(1, 0, 0), row(0, 0, 1));
        add(x, row(0, 1, 0), row(0, 0, 1));
        return x;
    }

    /** A token goes to place 1, and there gives place 2 more and more: 4 nodes. */
    static CoverTrees growing() {
        CoverTrees x = withPlaces(1, 0, 0);
        add(x, row(1, 0, 0), row(0, 1, 0));
        add(x, row(0, 1, 0), row(0, 1, 1));
        return x;
    }

    /** A token goes round two places: 3 nodes, 2 states. */
    static CoverTrees ring() {
        CoverTrees x = withPlaces(1, 0);
        add(x, row(1, 0), row(0, 1));
        add(x, row(0, 1), row(1, 0));
        return x;
    }

    /**
     * The tokens of places 0 and 1 are taken one by one, in any order, but only when all of
     * lead (at most 4) have gone from place 2 to 3: lead + (a + 1)(b + 1) states, and
     * lead + 1 + a(b + 1) + b(a + 1) nodes.
     */
    static CoverTrees grid(int a, int b, int lead) {
        CoverTrees x = withPlaces(a, b, lead, 0);
        add(x, row(1, 0, 0, lead), row(0, 0, 0, lead));
        add(x, row(0, 1, 0, lead), row(0, 0, 0, lead));
        add(x, row(0, 0, 1, 0), row(0, 0, 0, 1));
        return x;
    }
}
