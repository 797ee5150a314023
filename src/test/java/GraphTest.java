/** Promises 14 to 19: the graph and what it tells. */
public final class GraphTest {
    private static final int NONE = CoverTrees.NONE;
    private static final Checks checks = new Checks("GraphTest");

    private static void diamond() {
        CoverTrees x = Nets.diamond();
        x.explore();
        checks.due("diamond: graph()", 4, x.graph());
        checks.dueState(x, 0, 0, NONE, NONE);
        checks.dueState(x, 1, 1, 0, 0);
        checks.dueState(x, 2, 1, 1, 0);
        checks.dueState(x, 3, 2, 1, 1);
        checks.noIndex("diamond: distance(4)", () -> x.distance(4));
        checks.noIndex("diamond: distance(-1)", () -> x.distance(-1));
        checks.noIndex("diamond: found(4, true)", () -> x.found(4, true));
        checks.noIndex("diamond: found(-1, false)", () -> x.found(-1, false));
        checks.due("diamond: stops()", 1, x.stops());
        checks.due("diamond: live(0)", false, x.live(0));
        checks.due("diamond: live(1)", false, x.live(1));
        checks.due("diamond: graph() again", 4, x.graph());
        checks.due("diamond: explore() again", 5, x.explore());
        checks.noState("explored again: stops()", () -> x.stops());
    }

    private static void reached() {
        CoverTrees x = Nets.diamond();
        checks.noState("no tree: reached()", () -> x.reached());
        x.explore();
        checks.noState("no graph: reached()", () -> x.reached());
        x.graph();
        checks.due("(0, 0, 0): reached()", NONE, x.reached());
        x.want(2, 2);
        checks.due("(0, 0, 2): reached()", 3, x.reached());
        x.want(2, 1);
        checks.due("(0, 0, 1), covered only: reached()", NONE, x.reached());
        x.want(0, 1);
        checks.due("(1, 0, 1): reached()", 2, x.reached());
        x.want(1, 1);
        x.want(2, 0);
        checks.due("(1, 1, 0): reached()", 0, x.reached());
    }

    private static void ring() {
        CoverTrees x = Nets.ring();
        x.explore();
        checks.due("ring: graph()", 2, x.graph());
        checks.due("ring: stops()", 0, x.stops());
        checks.due("ring: live(0)", true, x.live(0));
        checks.due("ring: live(1)", true, x.live(1));
        checks.noIndex("ring: live(2)", Checks.yes(() -> x.live(2)));
        checks.noIndex("ring: live(-1)", Checks.yes(() -> x.live(-1)));
        checks.dueState(x, 0, 0, NONE, NONE);
    }

    /** Out of the ring, with no way back, there is a place where only transition 3 goes on. */
    private static void liveFarAhead() {
        CoverTrees x = Nets.withPlaces(1, 0, 0, 0);
        Nets.add(x, Nets.row(1, 0, 0, 0), Nets.row(0, 1, 0, 0));
        Nets.add(x, Nets.row(0, 1, 0, 0), Nets.row(1, 0, 0, 0));
        Nets.add(x, Nets.row(0, 1, 0, 0), Nets.row(0, 0, 1, 0));
        Nets.add(x, Nets.row(0, 0, 1, 0), Nets.row(0, 0, 1, 0));
        Nets.add(x, Nets.row(0, 0, 0, 1), Nets.row(0, 0, 0, 1));
        x.explore();
        checks.due("out of the ring: graph()", 3, x.graph());
        checks.due("out of the ring: stops()", 0, x.stops());
        checks.due("out of the ring: live(0)", false, x.live(0));
        checks.due("out of the ring: live(2)", false, x.live(2));
        checks.due("out of the ring: live(3)", true, x.live(3));
        checks.due("never enabled: live(4)", false, x.live(4));
        checks.due("never enabled: possible(4)", false, x.possible(4));
    }

    /** A long ring, found in the order of its states: live needs the way round. */
    private static void longRing() {
        CoverTrees x = Nets.withPlaces(9, 0, 1, 0);
        Nets.add(x, Nets.row(1, 0, 1, 0), Nets.row(0, 1, 1, 0));
        Nets.add(x, Nets.row(0, 4, 1, 0), Nets.row(0, 4, 0, 1));
        Nets.add(x, Nets.row(0, 1, 0, 1), Nets.row(1, 0, 0, 1));
        Nets.add(x, Nets.row(4, 0, 0, 1), Nets.row(4, 0, 1, 0));
        x.explore();
        checks.due("long ring: graph()", 20, x.graph());
        for (int t = 0; t < 4; t++) {
            checks.due("long ring: live(" + t + ")", true, x.live(t));
        }
    }

    private static void stops() {
        CoverTrees x = Nets.withPlaces(1, 0, 0, 0);
        Nets.add(x, Nets.row(1, 0, 0, 0), Nets.row(0, 1, 0, 0));
        Nets.add(x, Nets.row(1, 0, 0, 0), Nets.row(0, 0, 1, 0));
        Nets.add(x, Nets.row(1, 0, 0, 0), Nets.row(0, 0, 0, 1));
        Nets.add(x, Nets.row(0, 0, 0, 1), Nets.row(0, 0, 0, 1));
        x.explore();
        checks.due("three ends: graph()", 4, x.graph());
        checks.due("three ends, one goes on: stops()", 2, x.stops());
        checks.dueState(x, 3, 1, 2, 0);
    }

    /** A smaller graph tells nothing of the greater one that was there before. */
    private static void smallerGraph() {
        CoverTrees x = Nets.diamond();
        x.explore();
        x.graph();
        x.tokens(0, 0);
        x.tokens(1, 0);
        x.explore();
        checks.due("no tokens: graph()", 1, x.graph());
        checks.due("no tokens: stops()", 1, x.stops());
        checks.due("no tokens: live(0)", false, x.live(0));
        checks.noIndex("no tokens: distance(1)", () -> x.distance(1));
        x.want(2, 2);
        checks.due("no tokens: reached()", NONE, x.reached());
    }

    private static void limitOfStates() {
        CoverTrees x = Nets.grid(3, 9, 0);
        x.explore();
        checks.due("40 states: graph()", 40, x.graph());
        checks.dueState(x, 39, 12, 1, 37);
        checks.noIndex("40 states: distance(40)", () -> x.distance(40));
        CoverTrees y = Nets.grid(3, 9, 1);
        checks.due("41 states: explore()", 68, y.explore());
        checks.tooMany("41 states: graph()", () -> y.graph());
        checks.noState("41 states: reached()", () -> y.reached());
        checks.due("41 states: count(0, 1)", 9, y.count(0, 1));
        checks.tooMany("41 states: graph() again", () -> y.graph());
    }

    private static void endless() {
        CoverTrees x = Nets.growing();
        x.explore();
        checks.noState("endless: graph()", () -> x.graph());
        checks.noState("endless: stops()", () -> x.stops());
        checks.due("endless, the tree stays: bound(2)", CoverTrees.ENDLESS, x.bound(2));
    }

    private static void withoutGraph() {
        CoverTrees x = Nets.ring();
        checks.noState("no tree: graph()", () -> x.graph());
        x.explore();
        checks.noState("no graph: reached()", () -> x.reached());
        checks.noState("no graph: distance(-1)", () -> x.distance(-1));
        checks.noState("no graph: found(-1, true)", () -> x.found(-1, true));
        checks.noState("no graph: stops()", () -> x.stops());
        checks.noState("no graph: live(-1)", Checks.yes(() -> x.live(-1)));
    }

    public static void main(String[] args) {
        diamond();
        reached();
        ring();
        liveFarAhead();
        longRing();
        stops();
        smallerGraph();
        limitOfStates();
        endless();
        withoutGraph();
        checks.end();
    }
}
