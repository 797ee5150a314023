/**
 * The boundary cases of the tree: 'Terms', Promises 6 to 9 and 11 to 13. What is refused there
 * is in RefusedTest, with what a refused call leaves as it was.
 */
public final class TreeEdgesTest {
    private static final int ENDLESS = CoverTrees.ENDLESS;
    private static final int NONE = CoverTrees.NONE;
    private static final Checks checks = new Checks("TreeEdgesTest");

    private TreeEdgesTest() {
    }

    private static void dueNoTree(String what, CoverTrees x) {
        checks.noState(what + ": count(0, 0)", () -> x.count(0, 0));
        checks.noState(what + ": node(0, 0)", () -> x.node(0, 0));
        checks.noState(what + ": bound(0)", () -> x.bound(0));
        checks.noState(what + ": covered()", Checks.yes(() -> x.covered()));
        checks.noState(what + ": possible(0)", Checks.yes(() -> x.possible(0)));
        checks.noState(what + ": growth(0)", () -> x.growth(0));
        checks.noState(what + ": graph()", () -> x.graph());
        checks.noState(what + ": stops()", () -> x.stops());
    }

    private static void node0IsTheRootWithTheFirstMarking() {
        checks.sentence("Terms: node 0 is the root; its marking is the first one");
        CoverTrees x = new CoverTrees();
        checks.due("no places: explore()", 1, x.explore());
        checks.dueNode(x, 0, NONE, NONE, 0);
        CoverTrees y = Nets.withPlaces(9, 0, 1, 2, 3, 4);
        checks.due("no transitions: explore()", 1, y.explore());
        checks.dueNode(y, 0, NONE, NONE, 0, 9, 0, 1, 2, 3, 4);
        checks.noIndex("node(1, 0)", () -> y.node(1, 0));
        CoverTrees z = Nets.withPlaces(0, 0);
        z.arc(1, z.transition(), 1, false);
        checks.due("none enabled: explore()", 1, z.explore());
        checks.dueNode(z, 0, NONE, NONE, 0, 0, 0);
    }

    private static void aCopyHasTheMarkingOfANodeWithALessNumber() {
        checks.sentence("Terms: a node is a copy if a node with a less number has the same marking");
        CoverTrees x = Nets.withPlaces(1, 0);
        Nets.move(x, 0, 1);
        Nets.move(x, 0, 1);
        Nets.move(x, 1, 0);
        checks.due("two ways to one marking: explore()", 4, x.explore());
        checks.dueNode(x, 0, NONE, NONE, 0, 1, 0);
        checks.dueNode(x, 1, 0, 0, 0, 0, 1);
        checks.dueNode(x, 2, 1, 2, 1, 1, 0);
        checks.dueNode(x, 3, 0, 1, 1, 0, 1);
        CoverTrees y = Nets.withPlaces(0, 0, 0, 0, 0, 1);
        y.arc(5, y.transition(), 1, false);
        checks.due("another count in the last place alone: explore()", 2, y.explore());
        checks.dueNode(y, 1, 0, 0, 0, 0, 0, 0, 0, 0, 0);
    }

    private static void aCopyIsAlsoOneWithEndlessCounts() {
        checks.sentence("Terms: a copy has the same marking; counts may also be endless");
        CoverTrees x = Nets.withPlaces(0);
        x.arc(0, x.transition(), 4, true);
        x.arc(0, x.transition(), 1, false);
        checks.due("explore()", 4, x.explore());
        checks.dueNode(x, 0, NONE, NONE, 0, 0);
        checks.dueNode(x, 1, 0, 0, 0, ENDLESS);
        checks.dueNode(x, 2, 1, 0, 1, ENDLESS);
        checks.dueNode(x, 3, 1, 1, 1, ENDLESS);
    }

    private static void ofANodeThatIsNoCopyEachEnabledTransitionHasAChild() {
        checks.sentence("Terms: of a node that is no copy each enabled transition has a child");
        CoverTrees x = new CoverTrees();
        for (int t = 0; t < 8; t++) {
            x.transition();
        }
        checks.due("8 enabled without a place: explore()", 9, x.explore());
        for (int n = 1; n < 9; n++) {
            checks.dueNode(x, n, 0, n - 1, 1);
        }
        CoverTrees y = Nets.full();
        checks.due("one of 8 enabled: explore()", 3, y.explore());
        checks.dueNode(y, 1, 0, 0, 0, 0, 1, 0, 0, 0, 0);
        checks.dueNode(y, 2, 1, 1, 1, 1, 0, 0, 0, 0, 0);
    }

    /** The second child of the root comes behind all that comes of the first. */
    private static void nodesAreNumberedAsTheyAreMade() {
        checks.sentence("Terms: behind a node its first child with all that come of it, then the next child");
        CoverTrees x = Nets.withPlaces(1, 0, 0, 0, 0, 0);
        Nets.move(x, 0, 1);
        Nets.move(x, 0, 2);
        Nets.move(x, 1, 3);
        Nets.move(x, 1, 4);
        Nets.move(x, 3, 5);
        checks.due("explore()", 6, x.explore());
        checks.dueNode(x, 1, 0, 0, 0, 0, 1, 0, 0, 0, 0);
        checks.dueNode(x, 2, 1, 2, 0, 0, 0, 0, 1, 0, 0);
        checks.dueNode(x, 3, 2, 4, 0, 0, 0, 0, 0, 0, 1);
        checks.dueNode(x, 4, 1, 3, 0, 0, 0, 0, 0, 1, 0);
        checks.dueNode(x, 5, 0, 1, 0, 0, 0, 1, 0, 0, 0);
    }

    private static void endlessEnablesTakesAndGivesWithoutBeingChanged() {
        checks.sentence("Terms: endless is more than any number, and enables, takes and gives without being changed");
        CoverTrees x = Nets.withPlaces(0, 0);
        x.arc(0, x.transition(), 1, true);
        x.arc(0, x.transition(), 4, false);
        Nets.add(x, Nets.row(4, 0), Nets.row(0, 1));
        checks.due("explore()", 8, x.explore());
        checks.dueNode(x, 1, 0, 0, 0, ENDLESS, 0);
        checks.dueNode(x, 2, 1, 0, 1, ENDLESS, 0);
        checks.dueNode(x, 3, 1, 1, 1, ENDLESS, 0);
        checks.dueNode(x, 4, 1, 2, 0, ENDLESS, ENDLESS);
        checks.dueNode(x, 5, 4, 0, 1, ENDLESS, ENDLESS);
        checks.dueNode(x, 6, 4, 1, 1, ENDLESS, ENDLESS);
        checks.dueNode(x, 7, 4, 2, 1, ENDLESS, ENDLESS);
    }

    private static void endlessIsMoreThanTheGreatestCount() {
        checks.sentence("Terms: endless is more than any number");
        CoverTrees x = Nets.heap(9, 9, 4);
        checks.due("9 and 54 times 4 more: explore()", 55, x.explore());
        checks.due("count(54, 4)", 225, x.count(54, 4));
        checks.due("bound(4)", 225, x.bound(4));
        checks.due("growth(-1)", NONE, x.growth(-1));
        CoverTrees y = Nets.chain(9, 1, 0, 0, 0, 0);
        y.arc(0, 4, 0, true);
        y.explore();
        checks.due("99 firings, nothing endless: growth(-1)", NONE, y.growth(-1));
    }

    private static void theSameMarkingMakesNothingEndless() {
        checks.sentence("Terms: if no count is greater than the child's, and one is less");
        CoverTrees x = Nets.ring();
        checks.due("back to the root's marking: explore()", 3, x.explore());
        checks.dueNode(x, 2, 1, 1, 1, 1, 0);
        checks.due("bound(0)", 1, x.bound(0));
        CoverTrees y = Nets.withPlaces(1, 0);
        Nets.add(y, Nets.row(1, 0), Nets.row(0, 4));
        checks.due("one count of the root is greater: explore()", 2, y.explore());
        checks.dueNode(y, 1, 0, 0, 0, 0, 4);
        CoverTrees z = Nets.withPlaces(2, 0, 0, 0, 0, 1);
        Nets.add(z, Nets.row(1, 0, 0, 0, 0, 0), Nets.row(1, 0, 0, 0, 0, 1));
        checks.due("one count of the root is less, the last: explore()", 3, z.explore());
        checks.dueNode(z, 1, 0, 0, 0, 2, 0, 0, 0, 0, ENDLESS);
        CoverTrees w = Nets.withPlaces(0, 0, 0, 0, 0, 1);
        Nets.add(w, Nets.row(0, 0, 0, 0, 0, 1), Nets.row(4, 0, 0, 0, 0, 0));
        checks.due("one count of the root is greater, the last: explore()", 2, w.explore());
        checks.dueNode(w, 1, 0, 0, 0, 4, 0, 0, 0, 0, 0);
    }

    private static void allCountsThatAreGreaterBecomeEndlessAndNoOther() {
        checks.sentence("Terms: all of the child's counts that are greater than that one's become endless");
        CoverTrees x = Nets.withPlaces(0, 9, 0, 3, 0, 0);
        Nets.add(x, Nets.row(0, 4, 0, 0, 0, 0), Nets.row(1, 4, 4, 0, 0, 1));
        checks.due("explore()", 3, x.explore());
        checks.dueNode(x, 1, 0, 0, 0, ENDLESS, 9, ENDLESS, 3, 0, ENDLESS);
        checks.dueNode(x, 2, 1, 0, 1, ENDLESS, 9, ENDLESS, 3, 0, ENDLESS);
    }

    /** The parent makes place 1 endless; only by that the root has one less, and none more. */
    private static void theChildsCountsAreTakenAsTheyAreByThen() {
        checks.sentence("Terms: no count is greater than the child's (as it is by then)");
        CoverTrees x = Nets.withPlaces(0, 2);
        Nets.add(x, Nets.row(0, 2), Nets.row(1, 0));
        Nets.add(x, Nets.row(1, 0), Nets.row(1, 1));
        checks.due("explore()", 5, x.explore());
        checks.dueNode(x, 1, 0, 0, 0, 1, 0);
        checks.dueNode(x, 2, 1, 1, 0, ENDLESS, ENDLESS);
        checks.dueNode(x, 3, 2, 0, 1, ENDLESS, ENDLESS);
        checks.dueNode(x, 4, 2, 1, 1, ENDLESS, ENDLESS);
    }

    /** What makes endless is the root, three steps up; then the parent and the root, one behind the other. */
    private static void everyOneUpToTheRootIsLookedAt() {
        checks.sentence("Terms: then for the parent, its parent, and so on up to the root");
        CoverTrees x = Nets.withPlaces(1, 0, 0, 0);
        Nets.move(x, 0, 1);
        Nets.move(x, 1, 2);
        Nets.add(x, Nets.row(0, 0, 1, 0), Nets.row(1, 0, 0, 1));
        checks.due("explore()", 7, x.explore());
        checks.dueNode(x, 2, 1, 1, 0, 0, 0, 1, 0);
        checks.dueNode(x, 3, 2, 2, 0, 1, 0, 0, ENDLESS);
        checks.dueNode(x, 6, 5, 2, 1, 1, 0, 0, ENDLESS);
        CoverTrees y = Nets.withPlaces(4, 1, 0);
        Nets.add(y, Nets.row(4, 1, 0), Nets.row(0, 0, 1));
        Nets.add(y, Nets.row(0, 0, 1), Nets.row(0, 1, 1));
        Nets.add(y, Nets.row(0, 4, 0), Nets.row(4, 0, 0));
        checks.due("the parent for one count, the root for another: explore()", 8, y.explore());
        checks.dueNode(y, 1, 0, 0, 0, 0, 0, 1);
        checks.dueNode(y, 2, 1, 1, 0, 0, ENDLESS, 1);
        checks.dueNode(y, 3, 2, 1, 1, 0, ENDLESS, 1);
        checks.dueNode(y, 4, 2, 2, 0, ENDLESS, ENDLESS, ENDLESS);
    }

    private static void aNodeBesideTheWayMakesNothingEndless() {
        checks.sentence("Terms: for the parent, its parent, and so on up to the root (and no other node)");
        CoverTrees x = Nets.withPlaces(1, 0, 0);
        Nets.move(x, 0, 1);
        Nets.add(x, Nets.row(1, 0, 0), Nets.row(0, 1, 1));
        checks.due("explore()", 3, x.explore());
        checks.dueNode(x, 1, 0, 0, 0, 0, 1, 0);
        checks.dueNode(x, 2, 0, 1, 0, 0, 1, 1);
        checks.due("growth(-1)", NONE, x.growth(-1));
    }

    private static void thereMayBe100Nodes() {
        checks.sentence("Terms: there may be 100 nodes; when there are more there is no tree");
        checks.due("99: explore()", 99, Nets.grid(7, 6, 1).explore());
        CoverTrees x = Nets.grid(7, 6, 2);
        checks.due("100: explore()", 100, x.explore());
        checks.due("the last a copy: node(99, 2)", 1, x.node(99, 2));
        checks.noIndex("100: node(100, 0)", () -> x.node(100, 0));
        checks.noIndex("100: count(100, 0)", () -> x.count(100, 0));
        CoverTrees y = Nets.grid(7, 6, 3);
        checks.tooMany("101: explore()", () -> y.explore());
        dueNoTree("101", y);
    }

    private static void thereMayBe100NodesInOneChain() {
        checks.sentence("Terms: there may be 100 nodes (each the child of the one before)");
        CoverTrees w = Nets.chain(8, 0, 4, 0, 0, 0);
        checks.due("99: explore()", 99, w.explore());
        CoverTrees x = Nets.chain(9, 1, 0, 0, 0, 0);
        checks.due("100: explore()", 100, x.explore());
        for (int n = 1; n < 100; n++) {
            int step = (n - 1) % 11;
            int by = step == 0 ? 0 : step < 5 ? 1 : step == 5 ? 2 : step < 10 ? 3 : 4;
            checks.dueNode(x, n, n - 1, by, 0);
        }
        checks.dueNode(x, 99, 98, 4, 0, 0, 1, 0, 0, 0, 0);
        CoverTrees y = Nets.chain(9, 0, 0, 0, 0, 4);
        checks.tooMany("101: explore()", () -> y.explore());
        dueNoTree("101", y);
    }

    /**
     * A chain, of whose nodes with all 4 tokens in place 2 and 4 at least in place 0 the last
     * of the 8 transitions has a child as well: the chain is made first, the children last.
     */
    private static CoverTrees chainWithLateChildren(int... tokens) {
        CoverTrees x = Nets.chain(tokens);
        for (int t = 5; t < 7; t++) {
            x.transition();
            x.arc(1, t, 1, false);
            x.arc(2, t, 1, false);
        }
        x.transition();
        x.arc(0, 7, 4, false);
        x.arc(2, 7, 4, false);
        return x;
    }

    private static void thereMayBe100NodesOf8Transitions() {
        checks.sentence("Terms: there may be 100 nodes (none a copy, of each 8 transitions to look at)");
        CoverTrees x = chainWithLateChildren(8, 0, 1, 3, 0, 0);
        checks.due("100: explore()", 100, x.explore());
        checks.dueNode(x, 95, 94, 4, 0, 0, 1, 0, 0, 0, 0);
        for (int k = 0; k < 4; k++) {
            checks.dueNode(x, 96 + k, 41 - 11 * k, 7, 0, k, 0, 0, 0, 0, 0);
        }
        CoverTrees y = chainWithLateChildren(8, 0, 2, 2, 0, 0);
        checks.tooMany("101: explore()", () -> y.explore());
        dueNoTree("101", y);
    }

    private static void aTreeOf100NodesTellsWhatNoneOfThemHas() {
        checks.sentence("Promises 11 and 12: no reached marking, where there are 100 nodes");
        CoverTrees x = chainWithLateChildren(8, 0, 1, 3, 0, 0);
        x.explore();
        checks.due("never together: possible(5)", false, x.possible(5));
        checks.due("the last: possible(7)", true, x.possible(7));
        x.want(1, 1);
        checks.due("one of place 1: covered()", true, x.covered());
        x.want(2, 1);
        checks.due("and one of place 2: covered()", false, x.covered());
        CoverTrees y = Nets.ring();
        y.explore();
        y.arc(1, 1, 4, false);
        checks.due("one node less than before: explore()", 2, y.explore());
        y.want(0, 1);
        y.want(1, 1);
        checks.due("one node less than before: covered()", false, y.covered());
        y.tokens(0, 0);
        checks.due("still one less: explore()", 1, y.explore());
        y.want(0, 0);
        checks.due("still one less: covered()", false, y.covered());
        checks.due("still one less: possible(0)", false, y.possible(0));
        checks.due("still one less: bound(1)", 0, y.bound(1));
    }

    private static void aCopyCountsAmongThe100Nodes() {
        checks.sentence("Promise 6: when there are more than 100 (copies too)");
        CoverTrees x = Nets.chain(9, 1, 0, 0, 0, 0);
        x.transition();
        x.arc(0, 5, 4, false);
        x.arc(0, 5, 4, true);
        checks.tooMany("100 and copies: explore()", () -> x.explore());
        dueNoTree("100 and copies", x);
        x.tokens(0, 8);
        x.arc(0, 5, 0, false);
        x.arc(0, 5, 0, true);
        x.arc(1, 5, 1, false);
        x.arc(1, 5, 1, true);
        checks.due("89 and 9 copies: explore()", 98, x.explore());
    }

    private static void exploreDiscardsTreeAndGraphAndMakesTheTree() {
        checks.sentence("Promise 6: discards tree and graph, and makes the tree; answers the number of its nodes");
        CoverTrees x = Nets.ring();
        checks.due("explore()", 3, x.explore());
        x.graph();
        checks.due("explore() again", 3, x.explore());
        checks.noState("then reached()", () -> x.reached());
        checks.noState("then distance(0)", () -> x.distance(0));
        checks.noState("then found(0, true)", () -> x.found(0, true));
        checks.noState("then stops()", () -> x.stops());
        checks.noState("then live(0)", Checks.yes(() -> x.live(0)));
        checks.due("then bound(0)", 1, x.bound(0));
    }

    /** A greater tree, none, and a smaller one: nothing is left of the one before. */
    private static void afterNoTreeThereMayBeOneAgain() {
        checks.sentence("Promise 6: no tree then (and a tree again when it is explored with fewer nodes)");
        CoverTrees x = Nets.grid(7, 6, 2);
        checks.due("100: explore()", 100, x.explore());
        x.tokens(2, 3);
        checks.tooMany("101: explore()", () -> x.explore());
        dueNoTree("101", x);
        checks.tooMany("101: explore() again", () -> x.explore());
        x.tokens(0, 0);
        x.tokens(1, 0);
        checks.due("4: explore()", 4, x.explore());
        checks.noIndex("4: count(4, 0)", () -> x.count(4, 0));
        checks.due("4: bound(0)", 0, x.bound(0));
        checks.due("4: growth(-1)", NONE, x.growth(-1));
        CoverTrees y = Nets.grid(7, 6, 3);
        y.place(0);
        y.arc(4, y.transition(), 1, true);
        checks.tooMany("too many, with an endless count among them: explore()", () -> y.explore());
        y.arc(4, 3, 0, true);
        y.arc(4, 3, 1, false);
        y.tokens(0, 0);
        y.explore();
        checks.due("endless no more: growth(-1)", NONE, y.growth(-1));
        checks.due("endless no more: bound(4)", 0, y.bound(4));
    }

    private static void countTellsEndless() {
        checks.sentence("Promise 7: the count of a place in the marking of a node; endless");
        CoverTrees x = Nets.growing();
        int last = x.explore() - 1;
        checks.due("the first node and place: count(0, 0)", 1, x.count(0, 0));
        checks.due("the last node and place: count(" + last + ", 2)", ENDLESS, x.count(last, 2));
        checks.noIndex("count(" + (last + 1) + ", 0)", () -> x.count(last + 1, 0));
        checks.noIndex("count(" + last + ", 3)", () -> x.count(last, 3));
        checks.noIndex("count(-1, 0)", () -> x.count(-1, 0));
        checks.noIndex("count(0, -1)", () -> x.count(0, -1));
    }

    private static void nodeTellsNoneForTheRootAndOthers() {
        checks.sentence("Promise 8: NONE for the root and others; or 1 when it is a copy and 0 when not");
        CoverTrees x = Nets.ring();
        x.explore();
        checks.dueNode(x, 0, NONE, NONE, 0, 1, 0);
        checks.dueNode(x, 2, 1, 1, 1, 1, 0);
        for (int what : new int[] {-2, -1, 3, 4, Integer.MIN_VALUE, Integer.MAX_VALUE}) {
            for (int n = 0; n < 3; n++) {
                checks.due("node(" + n + ", " + what + ")", NONE, x.node(n, what));
            }
            checks.noIndex("node(3, " + what + ")", () -> x.node(3, what));
        }
    }

    private static void boundIsTheGreatestCountReached() {
        checks.sentence("Promise 9: the greatest count of a place in reached markings");
        CoverTrees x = Nets.withPlaces(9, 0, 0);
        Nets.add(x, Nets.row(4, 0, 0), Nets.row(0, 4, 0));
        checks.noState("no tree: bound(0)", () -> x.bound(0));
        x.explore();
        checks.due("the first marking is reached: bound(0)", 9, x.bound(0));
        checks.due("the last marking: bound(1)", 8, x.bound(1));
        checks.due("never more than 0: bound(2)", 0, x.bound(2));
        checks.noIndex("bound(3)", () -> x.bound(3));
        CoverTrees y = Nets.heap(2, 0, 1);
        y.explore();
        checks.due("at first and never again: bound(0)", 2, y.bound(0));
        checks.due("in between: bound(2)", 4, y.bound(2));
        checks.due("at the last: bound(4)", 12, y.bound(4));
    }

    private static void boundOfAnEndlessPlaceIsEndless() {
        checks.sentence("Promise 9: ENDLESS when it is endless");
        CoverTrees x = Nets.growing();
        x.tokens(2, 9);
        x.explore();
        checks.due("bound(2)", ENDLESS, x.bound(2));
        checks.due("beside it: bound(1)", 1, x.bound(1));
        CoverTrees y = Nets.withPlaces(0, 9);
        y.arc(0, y.transition(), 1, true);
        Nets.add(y, Nets.row(0, 1), Nets.row(0, 0));
        y.explore();
        checks.due("endless from the root on: bound(0)", ENDLESS, y.bound(0));
        checks.due("beside it, falling: bound(1)", 9, y.bound(1));
    }

    private static void coveredWhenNoPlaceHasLessThanTheTarget() {
        checks.sentence("Promise 11: whether some reached marking has for no place less than the target");
        CoverTrees x = Nets.withPlaces(3, 0, 0, 0, 0, 2);
        Nets.add(x, Nets.row(3, 0, 0, 0, 0, 0), Nets.row(0, 4, 0, 0, 0, 0));
        x.explore();
        checks.due("all 0", true, x.covered());
        x.want(0, 3);
        x.want(5, 2);
        checks.due("the first marking itself", true, x.covered());
        x.want(5, 3);
        checks.due("one more of the last place", false, x.covered());
        x.want(5, 2);
        x.want(0, 4);
        checks.due("one more of the first place", false, x.covered());
        x.want(0, 0);
        x.want(1, 4);
        checks.due("the last marking itself", true, x.covered());
        x.want(0, 1);
        checks.due("one of either, in no marking together", false, x.covered());
        x.want(0, 0);
        x.want(1, 5);
        checks.due("one more of the second place", false, x.covered());
        CoverTrees y = new CoverTrees();
        y.explore();
        checks.due("no places", true, y.covered());
    }

    private static void coveredUpTo99() {
        checks.sentence("Promise 11: the target with 99, the most that it can have");
        CoverTrees x = Nets.heap(5, 2, 4);
        x.want(4, 99);
        x.explore();
        checks.due("up to 122", true, x.covered());
        x.arc(4, 0, 0, true);
        x.explore();
        checks.due("up to 102: bound(4)", 102, x.bound(4));
        checks.due("up to 102", true, x.covered());
        x.tokens(0, 4);
        x.tokens(4, 9);
        x.arc(4, 0, 3, true);
        x.explore();
        checks.due("up to 101: bound(4)", 101, x.bound(4));
        x.tokens(4, 6);
        x.explore();
        checks.due("up to 98: bound(4)", 98, x.bound(4));
        checks.due("up to 98", false, x.covered());
        x.want(4, 98);
        checks.due("up to 98, 98 wanted", true, x.covered());
        x.want(4, 99);
        x.tokens(4, 7);
        x.explore();
        checks.due("up to 99", true, x.covered());
        CoverTrees y = Nets.growing();
        y.want(2, 99);
        y.explore();
        checks.due("endless", true, y.covered());
        y.want(0, 1);
        checks.due("endless, but not together with place 0", false, y.covered());
    }

    private static void possibleWhenEnabledInSomeReachedMarking() {
        checks.sentence("Promise 12: whether a transition is enabled in some reached marking");
        CoverTrees x = Nets.heap(1, 0, 1);
        int[] takes = {1, 2, 3, 4};
        for (int n : takes) {
            x.arc(2, x.transition(), n, false);
        }
        x.explore();
        for (int n : takes) {
            checks.due("takes " + n + " of up to 4: possible(" + (2 + n) + ")", true, x.possible(2 + n));
        }
        CoverTrees y = Nets.withPlaces(3, 0);
        y.arc(0, y.transition(), 3, false);
        y.arc(0, y.transition(), 4, false);
        y.transition();
        y.explore();
        checks.due("in the first marking only, all there is: possible(0)", true, y.possible(0));
        checks.due("one more than there is: possible(1)", false, y.possible(1));
        checks.due("takes nothing: possible(2)", true, y.possible(2));
        checks.noIndex("possible(3)", Checks.yes(() -> y.possible(3)));
        CoverTrees z = Nets.growing();
        z.arc(2, z.transition(), 4, false);
        z.explore();
        checks.due("4 of an endless place: possible(2)", true, z.possible(2));
        CoverTrees last = Nets.lateLast();
        last.explore();
        checks.due("in the last marking of a chain only: possible(3)", true, last.possible(3));
    }

    private static void growthTellsTheWayAndItsEnd() {
        checks.sentence("Promise 13: transition k (what = k, from 0); -1 behind its end");
        CoverTrees x = Nets.lateLast();
        x.place(0);
        x.arc(5, 3, 1, true);
        x.explore();
        int[] round = {0, 1, 1, 1, 1, 2};
        for (int k = 0; k < 24; k++) {
            checks.due("growth(" + k + ")", round[k % 6], x.growth(k));
        }
        checks.due("the last of the way: growth(24)", 3, x.growth(24));
        for (int k : new int[] {25, 26, 99, 100, 101, 1000, Integer.MAX_VALUE}) {
            checks.due("behind its end: growth(" + k + ")", -1, x.growth(k));
        }
        checks.due("before what can be repeated: growth(-1)", 24, x.growth(-1));
        checks.noArgument("growth(-2)", () -> x.growth(-2));
    }

    private static void growthOfAWayOfOneTransition() {
        checks.sentence("Promise 13: the way from the root to the first node that has an endless count (its child)");
        CoverTrees x = Nets.withPlaces(0);
        x.arc(0, x.transition(), 1, false);
        x.arc(0, x.transition(), 1, true);
        x.explore();
        checks.due("nothing before: growth(-1)", 0, x.growth(-1));
        checks.due("growth(0)", 1, x.growth(0));
        checks.due("growth(1)", -1, x.growth(1));
    }

    /** Node 1 makes place 2 of node 3 endless; then the root makes place 0 of it endless too. */
    private static void growthTellsTheFirstOneGoingUpThatMadeCountsEndless() {
        checks.sentence("Promise 13: the way to the first one, going up from the parent of that node");
        CoverTrees x = Nets.withPlaces(1, 0, 0, 0);
        Nets.add(x, Nets.row(1, 0, 0, 0), Nets.row(0, 1, 0, 0));
        Nets.add(x, Nets.row(0, 1, 0, 0), Nets.row(0, 0, 0, 1));
        Nets.add(x, Nets.row(0, 0, 0, 1), Nets.row(1, 1, 1, 0));
        x.explore();
        checks.dueNode(x, 3, 2, 2, 0, ENDLESS, ENDLESS, ENDLESS, 0);
        checks.due("node 1 before the root: growth(-1)", 1, x.growth(-1));
        checks.due("growth(0)", 0, x.growth(0));
        checks.due("growth(1)", 1, x.growth(1));
        checks.due("growth(2)", 2, x.growth(2));
        checks.due("growth(3)", -1, x.growth(3));
        CoverTrees y = Nets.withPlaces(1, 0, 0);
        Nets.move(y, 0, 1);
        Nets.add(y, Nets.row(0, 1, 0), Nets.row(1, 0, 1));
        y.explore();
        checks.due("the root only: growth(-1)", 0, y.growth(-1));
    }

    /** The child of the root by transition 1 has a shorter way, but a greater number. */
    private static void growthTellsOfTheFirstNodeByNumber() {
        checks.sentence("Promise 13: the first node (by number) that has an endless count");
        CoverTrees x = Nets.withPlaces(1, 0, 0);
        Nets.move(x, 0, 1);
        Nets.add(x, Nets.row(1, 0, 0), Nets.row(1, 0, 1));
        Nets.add(x, Nets.row(0, 1, 0), Nets.row(0, 1, 1));
        x.explore();
        checks.due("growth(-1)", 1, x.growth(-1));
        checks.due("growth(0)", 0, x.growth(0));
        checks.due("growth(1)", 2, x.growth(1));
        checks.due("growth(2)", -1, x.growth(2));
    }

    private static void growthIsNoneWhenNoNodeHasAnEndlessCount() {
        checks.sentence("Promise 13: NONE when no node has an endless count");
        CoverTrees empty = new CoverTrees();
        empty.explore();
        CoverTrees most = Nets.chain(9, 1, 0, 0, 0, 0);
        most.explore();
        for (int what : new int[] {-1, 0, 1, 98, 99, 100, Integer.MAX_VALUE}) {
            checks.due("no places: growth(" + what + ")", NONE, empty.growth(what));
            checks.due("100 nodes: growth(" + what + ")", NONE, most.growth(what));
        }
        CoverTrees x = Nets.growing();
        x.explore();
        x.tokens(0, 0);
        x.explore();
        checks.due("after a tree with an endless count: growth(-1)", NONE, x.growth(-1));
        checks.due("after a tree with an endless count: growth(0)", NONE, x.growth(0));
    }

    public static void main(String[] args) {
        node0IsTheRootWithTheFirstMarking();
        aCopyHasTheMarkingOfANodeWithALessNumber();
        aCopyIsAlsoOneWithEndlessCounts();
        ofANodeThatIsNoCopyEachEnabledTransitionHasAChild();
        nodesAreNumberedAsTheyAreMade();
        endlessEnablesTakesAndGivesWithoutBeingChanged();
        endlessIsMoreThanTheGreatestCount();
        theSameMarkingMakesNothingEndless();
        allCountsThatAreGreaterBecomeEndlessAndNoOther();
        theChildsCountsAreTakenAsTheyAreByThen();
        everyOneUpToTheRootIsLookedAt();
        aNodeBesideTheWayMakesNothingEndless();
        thereMayBe100Nodes();
        thereMayBe100NodesInOneChain();
        thereMayBe100NodesOf8Transitions();
        aTreeOf100NodesTellsWhatNoneOfThemHas();
        aCopyCountsAmongThe100Nodes();
        exploreDiscardsTreeAndGraphAndMakesTheTree();
        afterNoTreeThereMayBeOneAgain();
        countTellsEndless();
        nodeTellsNoneForTheRootAndOthers();
        boundIsTheGreatestCountReached();
        boundOfAnEndlessPlaceIsEndless();
        coveredWhenNoPlaceHasLessThanTheTarget();
        coveredUpTo99();
        possibleWhenEnabledInSomeReachedMarking();
        growthTellsTheWayAndItsEnd();
        growthOfAWayOfOneTransition();
        growthTellsTheFirstOneGoingUpThatMadeCountsEndless();
        growthTellsOfTheFirstNodeByNumber();
        growthIsNoneWhenNoNodeHasAnEndlessCount();
        checks.end();
    }
}
