/**
 * The boundary cases of the graph: 'Terms', Promises 14 to 19. What is refused there is in
 * RefusedTest, with what a refused call leaves as it was.
 */
public final class GraphEdgesTest {
    private static final int NONE = CoverTrees.NONE;
    private static final Checks checks = new Checks("GraphEdgesTest");

    private GraphEdgesTest() {
    }

    /** The state whose marking is told. */
    private static void dueMarking(CoverTrees x, int state, int... marking) {
        for (int p = 0; p < marking.length; p++) {
            x.want(p, marking[p]);
        }
        checks.due("the state of the marking: reached()", state, x.reached());
    }

    private static void dueNoGraph(String what, CoverTrees x) {
        checks.noState(what + ": reached()", () -> x.reached());
        checks.noState(what + ": distance(0)", () -> x.distance(0));
        checks.noState(what + ": found(0, false)", () -> x.found(0, false));
        checks.noState(what + ": found(0, true)", () -> x.found(0, true));
        checks.noState(what + ": stops()", () -> x.stops());
        checks.noState(what + ": live(0)", Checks.yes(() -> x.live(0)));
    }

    private static void thereIsAGraphIfThereIsATree() {
        checks.sentence("Promise 14: IllegalStateException when there is no tree");
        CoverTrees x = new CoverTrees();
        checks.noState("no tree: graph()", () -> x.graph());
        x.explore();
        checks.due("no places: graph()", 1, x.graph());
        x.place(9);
        checks.noState("tree discarded: graph()", () -> x.graph());
        CoverTrees y = Nets.grid(7, 6, 3);
        Checks.outcome(() -> y.explore());
        checks.noState("no tree of 101 nodes: graph()", () -> y.graph());
        dueNoGraph("no tree of 101 nodes", y);
    }

    private static void thereIsAGraphIfNoPlaceIsEndless() {
        checks.sentence("Promise 14: IllegalStateException when a place is endless");
        CoverTrees x = Nets.withPlaces(0, 0, 0, 0, 0, 0);
        x.arc(5, x.transition(), 1, true);
        x.explore();
        checks.noState("the last place is endless: graph()", () -> x.graph());
        dueNoGraph("the last place is endless", x);
        checks.due("the tree stays: bound(5)", CoverTrees.ENDLESS, x.bound(5));
        x.arc(5, 0, 0, true);
        x.explore();
        checks.due("endless no more: graph()", 1, x.graph());
        CoverTrees y = Nets.growing();
        y.explore();
        checks.noState("endless after a way of two: graph()", () -> y.graph());
        y.arc(2, 1, 0, true);
        y.explore();
        checks.due("gives no more: graph()", 2, y.graph());
        y.arc(2, 1, 1, true);
        y.explore();
        checks.noState("endless after a graph: graph()", () -> y.graph());
        dueNoGraph("endless after a graph", y);
    }

    private static void thereMayBe40States() {
        checks.sentence("Terms: there may be 40; when there are more there is no graph");
        CoverTrees w = Nets.withTree(Nets.chain(3, 0, 0, 0, 4, 0));
        checks.due("39: graph()", 39, w.graph());
        CoverTrees x = Nets.withTree(Nets.chain(3, 0, 0, 4, 0, 0));
        checks.due("40: graph()", 40, x.graph());
        for (int s = 1; s < 40; s++) {
            checks.due("40: distance(" + s + ")", s, x.distance(s));
            checks.due("40: found(" + s + ", true)", s - 1, x.found(s, true));
            checks.due("40: found(" + s + ", false)", x.node(s, 1), x.found(s, false));
        }
        checks.due("40: stops()", 1, x.stops());
        checks.noIndex("40: distance(40)", () -> x.distance(40));
        checks.noIndex("40: found(40, false)", () -> x.found(40, false));
        dueMarking(x, 39, 0, 1, 0, 0, 0, 0);
        dueMarking(x, 0, 3, 0, 0, 4, 0, 0);
        CoverTrees y = Nets.withTree(Nets.chain(3, 0, 1, 3, 0, 0));
        checks.tooMany("41: graph()", () -> y.graph());
        dueNoGraph("41", y);
        checks.due("41, the tree stays: bound(0)", 3, y.bound(0));
        checks.due("41, the tree stays: node(40, 0)", 39, y.node(40, 0));
        checks.tooMany("41, again: graph()", () -> y.graph());
        dueNoGraph("41, again", y);
    }

    private static void afterNoGraphThereMayBeOneAgain() {
        checks.sentence("Promise 14: no graph then (and one again when there are fewer states)");
        CoverTrees x = Nets.withGraph(Nets.chain(3, 0, 0, 4, 0, 0));
        checks.due("40: distance(39)", 39, x.distance(39));
        x.tokens(2, 1);
        x.tokens(3, 3);
        x.explore();
        checks.tooMany("41: graph()", () -> x.graph());
        dueNoGraph("41", x);
        x.tokens(0, 0);
        x.explore();
        dueNoGraph("fewer states, no graph yet", x);
        checks.due("8: graph()", 8, x.graph());
        checks.noIndex("8: distance(8)", () -> x.distance(8));
        checks.due("8: stops()", 1, x.stops());
        dueMarking(x, NONE, 3, 0, 0, 4, 0, 0);
        CoverTrees y = Nets.withTree(Nets.chain(9, 1, 0, 0, 0, 0));
        checks.tooMany("100: graph()", () -> y.graph());
        dueNoGraph("100", y);
    }

    private static void statesAreTheReachedMarkings() {
        checks.sentence("Terms: the graph has as states the reached markings; state 0 is the first one");
        CoverTrees x = new CoverTrees();
        x.explore();
        checks.due("no places: graph()", 1, x.graph());
        checks.due("no places: reached()", 0, x.reached());
        checks.due("no places: stops()", 1, x.stops());
        checks.dueState(x, 0, 0, NONE, NONE);
        checks.noIndex("no places: distance(1)", () -> x.distance(1));
        CoverTrees y = Nets.withPlaces(9, 0, 0, 0, 0, 9);
        y.explore();
        checks.due("no transitions: graph()", 1, y.graph());
        dueMarking(y, 0, 9, 0, 0, 0, 0, 9);
        CoverTrees z = new CoverTrees();
        z.transition();
        z.explore();
        checks.due("a transition and no places: graph()", 1, z.graph());
        checks.due("a transition and no places: stops()", 0, z.stops());
        checks.due("a transition and no places: live(0)", true, z.live(0));
        checks.dueState(z, 0, 0, NONE, NONE);
    }

    /** State 3 comes of state 1, though a transition with a less number finds it from state 2. */
    private static void statesAreNumberedAsTheyAreFound() {
        checks.sentence("Terms: states are taken by their numbers, of each the enabled transitions by theirs");
        CoverTrees x = Nets.withPlaces(1, 0, 0, 0, 0);
        Nets.move(x, 2, 3);
        Nets.move(x, 2, 4);
        Nets.move(x, 0, 1);
        Nets.move(x, 0, 2);
        Nets.move(x, 1, 3);
        x.explore();
        checks.due("graph()", 5, x.graph());
        checks.dueState(x, 1, 1, 2, 0);
        checks.dueState(x, 2, 1, 3, 0);
        checks.dueState(x, 3, 2, 4, 1);
        checks.dueState(x, 4, 2, 1, 2);
        dueMarking(x, 1, 0, 1, 0, 0, 0);
        dueMarking(x, 2, 0, 0, 1, 0, 0);
        dueMarking(x, 3, 0, 0, 0, 1, 0);
        dueMarking(x, 4, 0, 0, 0, 0, 1);
    }

    private static void ofTwoTransitionsThatFindAStateTheFirstIsTold() {
        checks.sentence("Promise 17: the transition by which a state was found; with from, the state from which");
        CoverTrees x = Nets.withPlaces(1, 0);
        x.transition();
        Nets.move(x, 0, 1);
        Nets.move(x, 0, 1);
        Nets.move(x, 1, 0);
        x.explore();
        checks.due("graph()", 2, x.graph());
        checks.dueState(x, 0, 0, NONE, NONE);
        checks.dueState(x, 1, 1, 1, 0);
        CoverTrees y = Nets.full();
        y.arc(5, 7, 0, false);
        y.arc(0, 7, 1, false);
        y.arc(5, 7, 1, true);
        Nets.withGraph(y);
        checks.dueState(y, 2, 1, 7, 0);
    }

    private static void graphAgainIsTheSame() {
        checks.sentence("Promise 14: makes the graph; answers the number of its states");
        CoverTrees x = Nets.withTree(Nets.diamond());
        for (int k = 0; k < 3; k++) {
            checks.due("graph()", 4, x.graph());
            checks.dueState(x, 3, 2, 1, 1);
            checks.due("stops()", 1, x.stops());
        }
    }

    private static void reachedIsTheStateWhoseMarkingIsTheTarget() {
        checks.sentence("Promise 15: the state whose marking is the target; NONE when there is none such");
        CoverTrees x = Nets.withGraph(Nets.full());
        checks.due("all 0: reached()", NONE, x.reached());
        dueMarking(x, 0, 1, 0, 0, 0, 0, 0);
        dueMarking(x, 1, 0, 1, 0, 0, 0, 0);
        dueMarking(x, NONE, 0, 1, 0, 0, 0, 1);
        dueMarking(x, NONE, 1, 1, 0, 0, 0, 0);
        dueMarking(x, NONE, 0, 2, 0, 0, 0, 0);
        dueMarking(x, NONE, 99, 99, 99, 99, 99, 99);
        CoverTrees y = Nets.withGraph(Nets.withPlaces(0));
        checks.due("all 0 is the first marking: reached()", 0, y.reached());
        y.want(0, 1);
        checks.due("one more: reached()", NONE, y.reached());
    }

    /** By the first transition, and on from there, it would be three firings to state 2. */
    private static void distanceIsHowManyFiringsAtLeast() {
        checks.sentence("Promise 16: how many firings a state is away from state 0, at least");
        CoverTrees x = Nets.withPlaces(1, 0, 0, 0, 0);
        Nets.move(x, 0, 1);
        Nets.move(x, 1, 2);
        Nets.move(x, 2, 3);
        Nets.move(x, 0, 3);
        Nets.move(x, 3, 4);
        Nets.move(x, 4, 0);
        Nets.withGraph(x);
        checks.due("state 0 itself: distance(0)", 0, x.distance(0));
        dueMarking(x, 2, 0, 0, 0, 1, 0);
        checks.dueState(x, 2, 1, 3, 0);
        checks.dueState(x, 3, 2, 1, 1);
        checks.dueState(x, 4, 2, 4, 2);
        CoverTrees y = Nets.withGraph(Nets.chain(3, 0, 0, 4, 0, 0));
        checks.due("the farthest of a chain of 40: distance(39)", 39, y.distance(39));
        checks.noIndex("distance(40)", () -> y.distance(40));
        checks.noIndex("distance(-1)", () -> y.distance(-1));
    }

    private static void foundIsNoneForState0() {
        checks.sentence("Promise 17: NONE for state 0 (also where firing comes back to it)");
        CoverTrees x = Nets.withGraph(Nets.ring());
        checks.dueState(x, 0, 0, NONE, NONE);
        checks.dueState(x, 1, 1, 0, 0);
        checks.noIndex("found(2, true)", () -> x.found(2, true));
        checks.noIndex("found(-1, false)", () -> x.found(-1, false));
    }

    private static void stopsCountsStatesThatEnableNoTransition() {
        checks.sentence("Promise 18: how many states enable no transition");
        checks.due("no transitions: stops()", 1, Nets.withGraph(Nets.withPlaces(1)).stops());
        checks.due("none stops: stops()", 0, Nets.withGraph(Nets.ring()).stops());
        CoverTrees x = Nets.withPlaces(1, 0, 0, 0, 0, 0);
        for (int p = 1; p < 6; p++) {
            Nets.move(x, 0, p);
        }
        checks.due("all but state 0: stops()", 5, Nets.withGraph(x).stops());
        Nets.add(x, Nets.row(0, 0, 0, 0, 0, 1), Nets.row(0, 0, 0, 0, 0, 1));
        checks.due("one of them comes back to itself: stops()", 4, Nets.withGraph(x).stops());
        checks.due("the last of 40 alone: stops()", 1, Nets.withGraph(Nets.grid(3, 9, 0)).stops());
    }

    private static void liveByNoneOneOrMoreFirings() {
        checks.sentence("Terms: live when from each state (by none, one or more firings) one that enables it comes");
        CoverTrees x = Nets.withPlaces(1, 0, 0);
        Nets.move(x, 0, 1);
        Nets.move(x, 1, 2);
        Nets.add(x, Nets.row(0, 0, 1), Nets.row(0, 0, 1));
        Nets.withGraph(x);
        checks.due("only at first: live(0)", false, x.live(0));
        checks.due("not behind it: live(1)", false, x.live(1));
        checks.due("none, one or two firings away: live(2)", true, x.live(2));
        CoverTrees y = Nets.lateLast();
        Nets.withGraph(y);
        checks.due("up to 24 firings away: live(3)", true, y.live(3));
        checks.due("not at the end: live(2)", false, y.live(2));
        y.arc(4, 3, 3, true);
        Nets.withGraph(y);
        checks.due("it can be fired once and stops: live(3)", false, y.live(3));
        checks.due("it can be fired once and stops: possible(3)", true, y.possible(3));
    }

    private static void liveFromEachState() {
        checks.sentence("Promise 19: whether a transition is live (from each state, one that cannot is enough)");
        CoverTrees x = Nets.withPlaces(1, 0, 0);
        Nets.move(x, 0, 1);
        Nets.move(x, 1, 0);
        Nets.move(x, 0, 2);
        Nets.withGraph(x);
        for (int t = 0; t < 3; t++) {
            checks.due("not from where it stops: live(" + t + ")", false, x.live(t));
        }
        Nets.move(x, 2, 0);
        Nets.withGraph(x);
        for (int t = 0; t < 4; t++) {
            checks.due("with a way back: live(" + t + ")", true, x.live(t));
        }
        checks.noIndex("live(4)", Checks.yes(() -> x.live(4)));
        CoverTrees y = Nets.withGraph(Nets.full());
        checks.due("of 8, in the ring: live(1)", true, y.live(1));
        checks.due("of 8, never enabled: live(2)", false, y.live(2));
        checks.due("of 8, the last, never enabled: live(7)", false, y.live(7));
        checks.noIndex("of 8: live(8)", Checks.yes(() -> y.live(8)));
    }

    /** 10 counts of places 0 and 1, each with the token in one of the ring of places 2 to 5. */
    private static void liveIn40States() {
        checks.sentence("Terms: live, in a graph of 40 states");
        CoverTrees x = Nets.withPlaces(9, 0, 1, 0, 0, 0);
        Nets.move(x, 0, 1);
        Nets.add(x, Nets.row(0, 1, 0, 0, 0, 1), Nets.row(1, 0, 0, 0, 0, 1));
        for (int p = 2; p < 6; p++) {
            Nets.move(x, p, p == 5 ? 2 : p + 1);
        }
        x.explore();
        checks.due("graph()", 40, x.graph());
        checks.due("stops()", 0, x.stops());
        for (int t = 0; t < 6; t++) {
            checks.due("live(" + t + ")", true, x.live(t));
        }
        x.arc(0, 1, 0, true);
        x.tokens(0, 2);
        x.explore();
        checks.due("6 pairs of counts, 4 places of the token: graph()", 24, x.graph());
        checks.due("place 1 is used up: live(0)", false, x.live(0));
        checks.due("place 1 is used up: live(1)", false, x.live(1));
        checks.due("place 1 is used up: live(5)", true, x.live(5));
    }

    public static void main(String[] args) {
        thereIsAGraphIfThereIsATree();
        thereIsAGraphIfNoPlaceIsEndless();
        thereMayBe40States();
        afterNoGraphThereMayBeOneAgain();
        statesAreTheReachedMarkings();
        statesAreNumberedAsTheyAreFound();
        ofTwoTransitionsThatFindAStateTheFirstIsTold();
        graphAgainIsTheSame();
        reachedIsTheStateWhoseMarkingIsTheTarget();
        distanceIsHowManyFiringsAtLeast();
        foundIsNoneForState0();
        stopsCountsStatesThatEnableNoTransition();
        liveByNoneOneOrMoreFirings();
        liveFromEachState();
        liveIn40States();
        checks.end();
    }
}
