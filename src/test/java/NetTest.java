/** Promises 1 to 5: a new object, places, transitions, arcs, first counts. */
public final class NetTest {
    private static final Checks checks = new Checks("NetTest");

    private static void newObject() {
        CoverTrees x = new CoverTrees();
        checks.noIndex("new: tokens(0, 0)", Checks.nothing(() -> x.tokens(0, 0)));
        checks.noIndex("new: want(0, 0)", Checks.nothing(() -> x.want(0, 0)));
        checks.noIndex("new: arc(0, 0, 0, true)", () -> x.arc(0, 0, 0, true));
        checks.noState("new: count(0, 0)", () -> x.count(0, 0));
        checks.noState("new: covered()", Checks.yes(() -> x.covered()));
        checks.noState("new: graph()", () -> x.graph());
        checks.noState("new: stops()", () -> x.stops());
        checks.due("new: explore()", 1, x.explore());
        checks.noIndex("new: possible(0)", Checks.yes(() -> x.possible(0)));
        checks.noIndex("new: bound(0)", () -> x.bound(0));
        checks.due("new: covered()", true, x.covered());
        checks.due("new: graph()", 1, x.graph());
        checks.due("new: reached()", 0, x.reached());
        checks.due("new: stops()", 1, x.stops());
        checks.noIndex("new: live(0)", Checks.yes(() -> x.live(0)));
    }

    private static void objectsAreApart() {
        CoverTrees x = Nets.growing();
        CoverTrees y = new CoverTrees();
        x.explore();
        checks.noState("another object: covered()", Checks.yes(() -> y.covered()));
        checks.due("another object: place(0)", 0, y.place(0));
        checks.due("another object: transition()", 0, y.transition());
        checks.due("another object: arc(0, 0, 1, false)", 0, y.arc(0, 0, 1, false));
        checks.due("the first one: bound(2)", CoverTrees.ENDLESS, x.bound(2));
    }

    private static void places() {
        CoverTrees x = new CoverTrees();
        checks.noArgument("place(-1)", () -> x.place(-1));
        checks.noArgument("place(10)", () -> x.place(10));
        checks.noArgument("place(least)", () -> x.place(Integer.MIN_VALUE));
        for (int p = 0; p < 6; p++) {
            int tokens = new int[] {0, 9, 1, 8, 5, 2}[p];
            checks.due("place(" + tokens + ")", p, x.place(tokens));
        }
        checks.noState("place(0), the seventh", () -> x.place(0));
        checks.noArgument("place(10), the seventh", () -> x.place(10));
        checks.noArgument("place(-1), the seventh", () -> x.place(-1));
        x.explore();
        for (int p = 0; p < 6; p++) {
            checks.due("count(0, " + p + ")", new int[] {0, 9, 1, 8, 5, 2}[p], x.count(0, p));
        }
        checks.noIndex("count(0, 6)", () -> x.count(0, 6));
    }

    private static void transitions() {
        CoverTrees x = new CoverTrees();
        for (int t = 0; t < 8; t++) {
            checks.due("transition()", t, x.transition());
        }
        checks.noState("transition(), the ninth", () -> x.transition());
        // Without a place each transition is enabled and comes back to the same marking.
        checks.due("8 transitions, no place: explore()", 9, x.explore());
        checks.due("8 transitions, no place: node(8, 1)", 7, x.node(8, 1));
        checks.due("8 transitions, no place: node(8, 2)", 1, x.node(8, 2));
        checks.due("8 transitions, no place: graph()", 1, x.graph());
        checks.due("8 transitions, no place: stops()", 0, x.stops());
        checks.due("8 transitions, no place: live(7)", true, x.live(7));
    }

    private static void arcs() {
        CoverTrees x = Nets.withPlaces(3, 0);
        x.transition();
        checks.noIndex("arc(2, 0, 1, true)", () -> x.arc(2, 0, 1, true));
        checks.noIndex("arc(-1, 0, 1, true)", () -> x.arc(-1, 0, 1, true));
        checks.noIndex("arc(0, 1, 1, true)", () -> x.arc(0, 1, 1, true));
        checks.noIndex("arc(0, -1, 1, true)", () -> x.arc(0, -1, 1, true));
        checks.noIndex("arc(2, 0, 5, true)", () -> x.arc(2, 0, 5, true));
        checks.noIndex("arc(0, 1, -1, true)", () -> x.arc(0, 1, -1, true));
        checks.noArgument("arc(0, 0, 5, false)", () -> x.arc(0, 0, 5, false));
        checks.noArgument("arc(0, 0, -1, true)", () -> x.arc(0, 0, -1, true));
        checks.due("arc(0, 0, 4, false)", 0, x.arc(0, 0, 4, false));
        checks.due("arc(0, 0, 2, false)", 4, x.arc(0, 0, 2, false));
        checks.due("arc(0, 0, 1, true)", 0, x.arc(0, 0, 1, true));
        checks.due("arc(1, 0, 4, true)", 0, x.arc(1, 0, 4, true));
        checks.due("arc(1, 0, 0, false)", 0, x.arc(1, 0, 0, false));
        checks.due("arc(0, 0, 2, false) again", 2, x.arc(0, 0, 2, false));
        checks.due("arc(0, 0, 1, true) again", 1, x.arc(0, 0, 1, true));
        checks.due("3 tokens, less one at a time: explore()", 3, x.explore());
        checks.due("count(1, 0)", 2, x.count(1, 0));
        checks.due("count(2, 0)", 1, x.count(2, 0));
        checks.due("count(2, 1)", 8, x.count(2, 1));
        checks.due("arc(0, 0, 0, false)", 2, x.arc(0, 0, 0, false));
        x.explore();
        checks.due("takes nothing now: bound(0)", CoverTrees.ENDLESS, x.bound(0));
    }

    private static void firstCounts() {
        CoverTrees x = Nets.withPlaces(3, 4);
        checks.noIndex("tokens(2, 1)", Checks.nothing(() -> x.tokens(2, 1)));
        checks.noIndex("tokens(-1, 1)", Checks.nothing(() -> x.tokens(-1, 1)));
        checks.noIndex("tokens(2, 10)", Checks.nothing(() -> x.tokens(2, 10)));
        checks.noArgument("tokens(1, 10)", Checks.nothing(() -> x.tokens(1, 10)));
        checks.noArgument("tokens(1, -1)", Checks.nothing(() -> x.tokens(1, -1)));
        x.explore();
        checks.due("after throws: count(0, 1)", 4, x.count(0, 1));
        x.tokens(0, 9);
        x.tokens(1, 0);
        x.explore();
        checks.due("after tokens(0, 9): count(0, 0)", 9, x.count(0, 0));
        checks.due("after tokens(1, 0): count(0, 1)", 0, x.count(0, 1));
    }

    public static void main(String[] args) {
        newObject();
        objectsAreApart();
        places();
        transitions();
        arcs();
        firstCounts();
        checks.end();
    }
}
