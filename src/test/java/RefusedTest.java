/**
 * 'Terms': "A call that throws changes nothing (but what explore() and graph() tell); where
 * several exceptions that a call names fit, the one named first is thrown." Each refused call
 * is made on one of two twins, and both are asked everything afterwards.
 */
public final class RefusedTest {
    private static final int LEAST = Integer.MIN_VALUE;
    private static final int MOST = Integer.MAX_VALUE;
    private static final String ARGUMENT = "IllegalArgumentException";
    private static final String STATE = "IllegalStateException";
    private static final String INDEX = "IndexOutOfBoundsException";
    private static final String TOO_MANY = "UnsupportedOperationException";
    private static final Checks checks = new Checks("RefusedTest");

    private RefusedTest() {
    }

    private static CoverTrees empty() {
        return new CoverTrees();
    }

    private static CoverTrees emptyWithGraph() {
        return Nets.withGraph(new CoverTrees());
    }

    private static CoverTrees ring() {
        return withTarget(Nets.ring());
    }

    private static CoverTrees ringWithTree() {
        return Nets.withTree(ring());
    }

    private static CoverTrees ringWithGraph() {
        return Nets.withGraph(ring());
    }

    private static CoverTrees fullWithGraph() {
        return Nets.withGraph(withTarget(Nets.full()));
    }

    private static CoverTrees growingWithTree() {
        return Nets.withTree(withTarget(Nets.growing()));
    }

    /** The target is the marking of state 1, so that reached() tells each change of it. */
    private static CoverTrees withTarget(CoverTrees x) {
        x.want(1, 1);
        return x;
    }

    private static void refuse(String what, String exception, Twins.Maker maker, Twins.Refused call) {
        Twins.due(checks, what, exception, maker, call);
    }

    private static void placeIsRefusedATokenCountThatIsNot0To9() {
        checks.sentence("Promise 2: IllegalArgumentException when tokens is not 0 .. 9");
        for (int tokens : new int[] {-1, 10, LEAST, MOST}) {
            refuse("place(" + tokens + ") with no place", ARGUMENT, RefusedTest::empty, x -> x.place(tokens));
            refuse("place(" + tokens + ")", ARGUMENT, RefusedTest::ringWithGraph, x -> x.place(tokens));
        }
    }

    private static void placeIsRefusedWhenThereAre6() {
        checks.sentence("Promise 2: IllegalStateException when there are 6");
        for (int tokens : new int[] {0, 9}) {
            refuse("place(" + tokens + "), the seventh", STATE, RefusedTest::fullWithGraph, x -> x.place(tokens));
        }
        checks.sentence("Promise 2: the exception named first, when there are 6 and tokens is not 0 .. 9");
        for (int tokens : new int[] {-1, 10, LEAST, MOST}) {
            refuse("place(" + tokens + "), the seventh", ARGUMENT, RefusedTest::fullWithGraph, x -> x.place(tokens));
        }
    }

    private static void transitionIsRefusedWhenThereAre8() {
        checks.sentence("Promise 3: IllegalStateException when there are 8");
        refuse("transition(), the ninth", STATE, RefusedTest::fullWithGraph, x -> x.transition());
    }

    private static void arcIsRefusedWhenOneOfThemIsNotThere() {
        checks.sentence("Promise 4: IndexOutOfBoundsException when one of them is not there");
        for (int k : new int[] {-1, 2, LEAST, MOST}) {
            for (boolean gives : new boolean[] {false, true}) {
                refuse("arc(" + k + ", 0, 1, " + gives + ")", INDEX, RefusedTest::ringWithGraph,
                    x -> x.arc(k, 0, 1, gives));
                refuse("arc(0, " + k + ", 1, " + gives + ")", INDEX, RefusedTest::ringWithGraph,
                    x -> x.arc(0, k, 1, gives));
                refuse("arc(" + k + ", " + k + ", 1, " + gives + ")", INDEX, RefusedTest::ringWithGraph,
                    x -> x.arc(k, k, 1, gives));
            }
        }
        refuse("arc(0, 0, 1, true) of nothing", INDEX, RefusedTest::emptyWithGraph, x -> x.arc(0, 0, 1, true));
        refuse("arc(6, 0, 1, true) of 6 places", INDEX, RefusedTest::fullWithGraph, x -> x.arc(6, 0, 1, true));
        refuse("arc(0, 8, 1, true) of 8 transitions", INDEX, RefusedTest::fullWithGraph, x -> x.arc(0, 8, 1, true));
    }

    private static void arcIsRefusedANumberThatIsNot0To4() {
        checks.sentence("Promise 4: IllegalArgumentException when n is not 0 .. 4");
        for (int n : new int[] {-1, 5, LEAST, MOST}) {
            refuse("arc(0, 0, " + n + ", false)", ARGUMENT, RefusedTest::ringWithGraph, x -> x.arc(0, 0, n, false));
            refuse("arc(1, 0, " + n + ", true)", ARGUMENT, RefusedTest::ringWithGraph, x -> x.arc(1, 0, n, true));
        }
        checks.sentence("Promise 4: the exception named first, when one is not there and n is not 0 .. 4");
        for (int n : new int[] {-1, 5}) {
            refuse("arc(2, 0, " + n + ", false)", INDEX, RefusedTest::ringWithGraph, x -> x.arc(2, 0, n, false));
            refuse("arc(0, 2, " + n + ", true)", INDEX, RefusedTest::ringWithGraph, x -> x.arc(0, 2, n, true));
            refuse("arc(-1, -1, " + n + ", true)", INDEX, RefusedTest::ringWithGraph, x -> x.arc(-1, -1, n, true));
            refuse("arc(0, 0, " + n + ", true) of nothing", INDEX, RefusedTest::emptyWithGraph,
                x -> x.arc(0, 0, n, true));
        }
    }

    private static void tokensIsRefusedAPlaceThatIsNotThere() {
        checks.sentence("Promise 5: IndexOutOfBoundsException when it is not there");
        for (int p : new int[] {-1, 2, LEAST, MOST}) {
            refuse("tokens(" + p + ", 1)", INDEX, RefusedTest::ringWithGraph, x -> x.tokens(p, 1));
        }
        refuse("tokens(0, 1) of nothing", INDEX, RefusedTest::emptyWithGraph, x -> x.tokens(0, 1));
        refuse("tokens(6, 1) of 6 places", INDEX, RefusedTest::fullWithGraph, x -> x.tokens(6, 1));
    }

    private static void tokensIsRefusedACountThatIsNot0To9() {
        checks.sentence("Promise 5: IllegalArgumentException when n is not 0 .. 9");
        for (int n : new int[] {-1, 10, LEAST, MOST}) {
            refuse("tokens(0, " + n + ")", ARGUMENT, RefusedTest::ringWithGraph, x -> x.tokens(0, n));
            refuse("tokens(5, " + n + ")", ARGUMENT, RefusedTest::fullWithGraph, x -> x.tokens(5, n));
        }
        checks.sentence("Promise 5: the exception named first, when it is not there and n is not 0 .. 9");
        refuse("tokens(2, 10)", INDEX, RefusedTest::ringWithGraph, x -> x.tokens(2, 10));
        refuse("tokens(-1, -1)", INDEX, RefusedTest::ringWithGraph, x -> x.tokens(-1, -1));
        refuse("tokens(0, 10) of nothing", INDEX, RefusedTest::emptyWithGraph, x -> x.tokens(0, 10));
    }

    private static void wantIsRefusedAPlaceThatIsNotThere() {
        checks.sentence("Promise 10: IndexOutOfBoundsException when there is no such place");
        for (int p : new int[] {-1, 2, LEAST, MOST}) {
            refuse("want(" + p + ", 1)", INDEX, RefusedTest::ringWithGraph, x -> x.want(p, 1));
        }
        refuse("want(0, 1) of nothing", INDEX, RefusedTest::emptyWithGraph, x -> x.want(0, 1));
        refuse("want(6, 1) of 6 places", INDEX, RefusedTest::fullWithGraph, x -> x.want(6, 1));
    }

    private static void wantIsRefusedACountThatIsNot0To99() {
        checks.sentence("Promise 10: IllegalArgumentException when n is not 0 .. 99");
        for (int n : new int[] {-1, 100, LEAST, MOST}) {
            refuse("want(0, " + n + ")", ARGUMENT, RefusedTest::ringWithGraph, x -> x.want(0, n));
            refuse("want(5, " + n + ")", ARGUMENT, RefusedTest::fullWithGraph, x -> x.want(5, n));
        }
        checks.sentence("Promise 10: the exception named first, when there is no such place and n is not 0 .. 99");
        refuse("want(2, 100)", INDEX, RefusedTest::ringWithGraph, x -> x.want(2, 100));
        refuse("want(-1, -1)", INDEX, RefusedTest::ringWithGraph, x -> x.want(-1, -1));
        refuse("want(0, 100) of nothing", INDEX, RefusedTest::emptyWithGraph, x -> x.want(0, 100));
    }

    private static void exploreIsRefusedMoreThan100Nodes() {
        checks.sentence("Promise 6: UnsupportedOperationException when there are more than 100 (and no tree then)");
        refuse("explore() of 101 nodes", TOO_MANY, () -> Nets.grid(7, 6, 3), x -> x.explore());
        refuse("explore() of 101 nodes in one chain", TOO_MANY, () -> Nets.chain(9, 0, 0, 0, 0, 4),
            x -> x.explore());
        refuse("explore() of 101 nodes, once more", TOO_MANY, RefusedTest::refusedATree, x -> x.explore());
    }

    private static CoverTrees refusedATree() {
        CoverTrees x = Nets.grid(7, 6, 3);
        Checks.outcome(() -> x.explore());
        return x;
    }

    private static void whatAsksTheTreeIsRefusedWhenThereIsNone() {
        checks.sentence("Promises 7 to 9 and 11 to 13: IllegalStateException when there is no tree");
        for (Twins.Maker maker : new Twins.Maker[] {RefusedTest::empty, RefusedTest::ring, RefusedTest::refusedATree}) {
            refuse("no tree: count(0, 0)", STATE, maker, x -> x.count(0, 0));
            refuse("no tree: node(0, 0)", STATE, maker, x -> x.node(0, 0));
            refuse("no tree: bound(0)", STATE, maker, x -> x.bound(0));
            refuse("no tree: covered()", STATE, maker, x -> x.covered());
            refuse("no tree: possible(0)", STATE, maker, x -> x.possible(0));
            refuse("no tree: growth(0)", STATE, maker, x -> x.growth(0));
        }
        checks.sentence("Promises 7 to 9, 12 and 13: the exception named first, when there is no tree");
        for (int k : new int[] {-2, 2, LEAST, MOST}) {
            refuse("no tree: count(" + k + ", 0)", STATE, RefusedTest::ring, x -> x.count(k, 0));
            refuse("no tree: count(0, " + k + ")", STATE, RefusedTest::ring, x -> x.count(0, k));
            refuse("no tree: node(" + k + ", 0)", STATE, RefusedTest::ring, x -> x.node(k, 0));
            refuse("no tree: bound(" + k + ")", STATE, RefusedTest::ring, x -> x.bound(k));
            refuse("no tree: possible(" + k + ")", STATE, RefusedTest::ring, x -> x.possible(k));
            refuse("no tree: growth(" + k + ")", STATE, RefusedTest::ring, x -> x.growth(k));
        }
    }

    private static void whatAsksTheTreeIsRefusedWhatIsNotThere() {
        checks.sentence("Promises 7 to 9 and 12: IndexOutOfBoundsException when there is no such node, place, transition");
        for (int n : new int[] {-1, 3, LEAST, MOST}) {
            refuse("count(" + n + ", 0)", INDEX, RefusedTest::ringWithGraph, x -> x.count(n, 0));
            refuse("count(" + n + ", " + n + ")", INDEX, RefusedTest::ringWithGraph, x -> x.count(n, n));
            for (int what : new int[] {-1, 0, 1, 2, 3}) {
                refuse("node(" + n + ", " + what + ")", INDEX, RefusedTest::ringWithGraph, x -> x.node(n, what));
            }
        }
        for (int k : new int[] {-1, 2, LEAST, MOST}) {
            refuse("count(0, " + k + ")", INDEX, RefusedTest::ringWithGraph, x -> x.count(0, k));
            refuse("bound(" + k + ")", INDEX, RefusedTest::ringWithGraph, x -> x.bound(k));
            refuse("possible(" + k + ")", INDEX, RefusedTest::ringWithGraph, x -> x.possible(k));
        }
        refuse("nothing there: count(0, 0)", INDEX, RefusedTest::emptyWithGraph, x -> x.count(0, 0));
        refuse("nothing there: node(1, 0)", INDEX, RefusedTest::emptyWithGraph, x -> x.node(1, 0));
        refuse("nothing there: bound(0)", INDEX, RefusedTest::emptyWithGraph, x -> x.bound(0));
        refuse("nothing there: possible(0)", INDEX, RefusedTest::emptyWithGraph, x -> x.possible(0));
        refuse("6 places: count(0, 6)", INDEX, RefusedTest::fullWithGraph, x -> x.count(0, 6));
        refuse("6 places: bound(6)", INDEX, RefusedTest::fullWithGraph, x -> x.bound(6));
        refuse("8 transitions: possible(8)", INDEX, RefusedTest::fullWithGraph, x -> x.possible(8));
    }

    private static void growthIsRefusedLessThanMinus1() {
        checks.sentence("Promise 13: IllegalArgumentException when what is less than -1");
        for (int what : new int[] {-2, -3, LEAST}) {
            refuse("growth(" + what + ")", ARGUMENT, RefusedTest::growingWithTree, x -> x.growth(what));
            refuse("growth(" + what + ") where nothing grows", ARGUMENT, RefusedTest::ringWithGraph,
                x -> x.growth(what));
        }
    }

    private static void graphIsRefusedWithoutTreeAndWhereAPlaceIsEndless() {
        checks.sentence("Promise 14: IllegalStateException when there is no tree, or a place is endless");
        refuse("nothing explored: graph()", STATE, RefusedTest::empty, x -> x.graph());
        refuse("no tree: graph()", STATE, RefusedTest::ring, x -> x.graph());
        refuse("no tree of 101 nodes: graph()", STATE, RefusedTest::refusedATree, x -> x.graph());
        refuse("a place is endless: graph()", STATE, RefusedTest::growingWithTree, x -> x.graph());
    }

    private static void graphIsRefusedMoreThan40States() {
        checks.sentence("Promise 14: UnsupportedOperationException when there are more than 40 (and no graph then)");
        refuse("graph() of 41 states", TOO_MANY, () -> Nets.withTree(Nets.grid(3, 9, 1)), x -> x.graph());
        refuse("graph() of 41 states in one chain", TOO_MANY, () -> Nets.withTree(Nets.chain(3, 0, 1, 3, 0, 0)),
            x -> x.graph());
        refuse("graph() of 100 states", TOO_MANY, () -> Nets.withTree(Nets.chain(9, 1, 0, 0, 0, 0)), x -> x.graph());
    }

    private static void whatAsksTheGraphIsRefusedWhenThereIsNone() {
        checks.sentence("Promises 15 to 19: IllegalStateException when there is no graph");
        Twins.Maker[] makers = {RefusedTest::empty, RefusedTest::ring, RefusedTest::ringWithTree,
            RefusedTest::growingWithTree, RefusedTest::refusedAGraph};
        for (Twins.Maker maker : makers) {
            refuse("no graph: reached()", STATE, maker, x -> x.reached());
            refuse("no graph: distance(0)", STATE, maker, x -> x.distance(0));
            refuse("no graph: found(0, false)", STATE, maker, x -> x.found(0, false));
            refuse("no graph: found(0, true)", STATE, maker, x -> x.found(0, true));
            refuse("no graph: stops()", STATE, maker, x -> x.stops());
            refuse("no graph: live(0)", STATE, maker, x -> x.live(0));
        }
        checks.sentence("Promises 16, 17 and 19: the exception named first, when there is no graph");
        for (int k : new int[] {-1, 2, LEAST, MOST}) {
            refuse("no graph: distance(" + k + ")", STATE, RefusedTest::ringWithTree, x -> x.distance(k));
            refuse("no graph: found(" + k + ", true)", STATE, RefusedTest::ringWithTree, x -> x.found(k, true));
            refuse("no graph: found(" + k + ", false)", STATE, RefusedTest::ringWithTree, x -> x.found(k, false));
            refuse("no graph: live(" + k + ")", STATE, RefusedTest::ringWithTree, x -> x.live(k));
        }
    }

    private static CoverTrees refusedAGraph() {
        CoverTrees x = Nets.withTree(Nets.grid(3, 9, 1));
        Checks.outcome(() -> x.graph());
        return x;
    }

    private static void whatAsksTheGraphIsRefusedWhatIsNotThere() {
        checks.sentence("Promises 16, 17 and 19: IndexOutOfBoundsException when it has no such state, transition");
        for (int k : new int[] {-1, 2, LEAST, MOST}) {
            refuse("distance(" + k + ")", INDEX, RefusedTest::ringWithGraph, x -> x.distance(k));
            refuse("found(" + k + ", true)", INDEX, RefusedTest::ringWithGraph, x -> x.found(k, true));
            refuse("found(" + k + ", false)", INDEX, RefusedTest::ringWithGraph, x -> x.found(k, false));
            refuse("live(" + k + ")", INDEX, RefusedTest::ringWithGraph, x -> x.live(k));
        }
        refuse("nothing there: distance(1)", INDEX, RefusedTest::emptyWithGraph, x -> x.distance(1));
        refuse("nothing there: found(1, true)", INDEX, RefusedTest::emptyWithGraph, x -> x.found(1, true));
        refuse("nothing there: live(0)", INDEX, RefusedTest::emptyWithGraph, x -> x.live(0));
        refuse("8 transitions: live(8)", INDEX, RefusedTest::fullWithGraph, x -> x.live(8));
        refuse("40 states: distance(40)", INDEX, () -> Nets.withGraph(Nets.grid(3, 9, 0)), x -> x.distance(40));
        refuse("40 states: found(40, true)", INDEX, () -> Nets.withGraph(Nets.grid(3, 9, 0)), x -> x.found(40, true));
    }

    public static void main(String[] args) {
        placeIsRefusedATokenCountThatIsNot0To9();
        placeIsRefusedWhenThereAre6();
        transitionIsRefusedWhenThereAre8();
        arcIsRefusedWhenOneOfThemIsNotThere();
        arcIsRefusedANumberThatIsNot0To4();
        tokensIsRefusedAPlaceThatIsNotThere();
        tokensIsRefusedACountThatIsNot0To9();
        wantIsRefusedAPlaceThatIsNotThere();
        wantIsRefusedACountThatIsNot0To99();
        exploreIsRefusedMoreThan100Nodes();
        whatAsksTheTreeIsRefusedWhenThereIsNone();
        whatAsksTheTreeIsRefusedWhatIsNotThere();
        growthIsRefusedLessThanMinus1();
        graphIsRefusedWithoutTreeAndWhereAPlaceIsEndless();
        graphIsRefusedMoreThan40States();
        whatAsksTheGraphIsRefusedWhenThereIsNone();
        whatAsksTheGraphIsRefusedWhatIsNotThere();
        checks.end();
    }
}
