/**
 * The boundary cases of the net: 'Terms', Promises 1 to 5 and 10. What is refused there is in
 * RefusedTest, with what a refused call leaves as it was.
 */
public final class NetEdgesTest {
    private static final int ENDLESS = CoverTrees.ENDLESS;
    private static final int NONE = CoverTrees.NONE;
    private static final Checks checks = new Checks("NetEdgesTest");

    private NetEdgesTest() {
    }

    private static void constantsAreMinus1AndMinus2() {
        checks.sentence("The constants: ENDLESS = -1, NONE = -2");
        checks.due("ENDLESS", -1, CoverTrees.ENDLESS);
        checks.due("NONE", -2, CoverTrees.NONE);
    }

    private static void aNewObjectHasNoPlacesNoTransitions() {
        checks.sentence("Promise 1: No places, no transitions");
        CoverTrees x = new CoverTrees();
        checks.noIndex("tokens(0, 0)", Checks.nothing(() -> x.tokens(0, 0)));
        checks.noIndex("want(0, 0)", Checks.nothing(() -> x.want(0, 0)));
        checks.noIndex("arc(0, 0, 0, false)", () -> x.arc(0, 0, 0, false));
        checks.due("place(0)", 0, x.place(0));
        checks.noIndex("a place, no transition: arc(0, 0, 0, false)", () -> x.arc(0, 0, 0, false));
        CoverTrees y = new CoverTrees();
        checks.due("transition()", 0, y.transition());
        checks.noIndex("a transition, no place: arc(0, 0, 0, false)", () -> y.arc(0, 0, 0, false));
    }

    private static void aNewObjectHasNoTreeAndNoGraph() {
        checks.sentence("Promise 1: a new object has no tree and no graph");
        CoverTrees x = new CoverTrees();
        checks.noState("covered()", Checks.yes(() -> x.covered()));
        checks.noState("growth(-1)", () -> x.growth(-1));
        checks.noState("graph()", () -> x.graph());
        checks.noState("reached()", () -> x.reached());
        checks.noState("stops()", () -> x.stops());
    }

    private static void placesAreAtMost6() {
        checks.sentence("Terms: places 0 .. (at most 6)");
        CoverTrees x = new CoverTrees();
        for (int p = 0; p < 6; p++) {
            checks.due("place(" + p + ")", p, x.place(p));
        }
        checks.noState("the seventh", () -> x.place(0));
        int t = x.transition();
        checks.due("of the sixth: arc(5, 0, 1, false)", 0, x.arc(5, t, 1, false));
        x.tokens(5, 9);
        x.want(5, 9);
        checks.due("explore()", 10, x.explore());
        checks.due("of the sixth: count(9, 5)", 0, x.count(9, 5));
        checks.due("of the sixth: bound(5)", 9, x.bound(5));
        checks.due("of the sixth: covered()", true, x.covered());
        x.want(5, 10);
        checks.due("of the sixth, one more: covered()", false, x.covered());
    }

    private static void transitionsAreAtMost8() {
        checks.sentence("Terms: transitions 0 .. (at most 8)");
        CoverTrees x = Nets.withPlaces(1, 0);
        for (int t = 0; t < 8; t++) {
            checks.due("transition()", t, x.transition());
            x.arc(1, t, 1, false);
        }
        checks.noState("the ninth", () -> x.transition());
        checks.due("of the eighth: arc(1, 7, 0, false)", 1, x.arc(1, 7, 0, false));
        checks.due("of the eighth: arc(0, 7, 1, false)", 0, x.arc(0, 7, 1, false));
        checks.due("explore()", 2, x.explore());
        checks.due("by the eighth: node(1, 1)", 7, x.node(1, 1));
        checks.due("the seventh: possible(6)", false, x.possible(6));
        checks.due("the eighth: possible(7)", true, x.possible(7));
        checks.due("graph()", 2, x.graph());
        checks.due("by the eighth: found(1, false)", 7, x.found(1, false));
        checks.due("the eighth: live(7)", false, x.live(7));
        x.arc(0, 7, 1, true);
        x.explore();
        x.graph();
        checks.due("the eighth, given back: live(7)", true, x.live(7));
        checks.due("the seventh: live(6)", false, x.live(6));
    }

    private static void placeTakesTokens0To9() {
        checks.sentence("Promise 2: tokens 0 .. 9");
        CoverTrees x = new CoverTrees();
        checks.noArgument("place(-1)", () -> x.place(-1));
        checks.due("place(0)", 0, x.place(0));
        checks.due("place(9)", 1, x.place(9));
        checks.noArgument("place(10)", () -> x.place(10));
        x.explore();
        checks.due("count(0, 0)", 0, x.count(0, 0));
        checks.due("count(0, 1)", 9, x.count(0, 1));
        checks.noIndex("count(0, 2)", () -> x.count(0, 2));
    }

    /** Each arc of the full net gets a number of its own, and none changes another. */
    private static void arcAnswersWhatItWas() {
        checks.sentence("Promise 4: what it takes or gives is n from now on; answers what it was; 0 at first");
        CoverTrees x = Nets.withPlaces(0, 0, 0, 0, 0, 0);
        for (int t = 0; t < 8; t++) {
            x.transition();
        }
        for (int p = 0; p < 6; p++) {
            for (int t = 0; t < 8; t++) {
                checks.due("takes at first, " + p + ", " + t, 0, x.arc(p, t, (p + 2 * t) % 5, false));
                checks.due("gives at first, " + p + ", " + t, 0, x.arc(p, t, (3 * p + t + 1) % 5, true));
            }
        }
        for (int p = 0; p < 6; p++) {
            for (int t = 0; t < 8; t++) {
                checks.due("takes, " + p + ", " + t, (p + 2 * t) % 5, x.arc(p, t, 4, false));
                checks.due("gives, " + p + ", " + t, (3 * p + t + 1) % 5, x.arc(p, t, 0, true));
            }
        }
        checks.due("takes 4: arc(5, 7, 0, false)", 4, x.arc(5, 7, 0, false));
        checks.due("takes 0: arc(5, 7, 0, false)", 0, x.arc(5, 7, 0, false));
        checks.due("gives 0: arc(5, 7, 4, true)", 0, x.arc(5, 7, 4, true));
        checks.due("gives 4: arc(5, 7, 4, true)", 4, x.arc(5, 7, 4, true));
    }

    private static void arcTakesNumbers0To4() {
        checks.sentence("Promise 4: n 0 .. 4");
        CoverTrees x = Nets.withPlaces(9, 0);
        x.transition();
        checks.noArgument("arc(0, 0, -1, false)", () -> x.arc(0, 0, -1, false));
        checks.due("arc(0, 0, 4, false)", 0, x.arc(0, 0, 4, false));
        checks.due("arc(1, 0, 4, true)", 0, x.arc(1, 0, 4, true));
        checks.noArgument("arc(0, 0, 5, false)", () -> x.arc(0, 0, 5, false));
        checks.noArgument("arc(1, 0, 5, true)", () -> x.arc(1, 0, 5, true));
        checks.due("9 less 4, less 4: explore()", 3, x.explore());
        checks.due("count(2, 0)", 1, x.count(2, 0));
        checks.due("count(2, 1)", 8, x.count(2, 1));
    }

    private static void takesAndGives0AtFirst() {
        checks.sentence("Terms: take from each place so many tokens (0 at first) and give it so many (0 at first)");
        CoverTrees x = Nets.withPlaces(0, 3);
        x.transition();
        x.place(0);
        checks.due("enabled, and changes nothing: explore()", 2, x.explore());
        checks.due("node(1, 2)", 1, x.node(1, 2));
        checks.due("bound(0)", 0, x.bound(0));
        checks.due("bound(1)", 3, x.bound(1));
        checks.due("of the place added later: bound(2)", 0, x.bound(2));
        for (int p = 0; p < 3; p++) {
            checks.due("takes, " + p, 0, x.arc(p, 0, 0, false));
            checks.due("gives, " + p, 0, x.arc(p, 0, 0, true));
        }
    }

    private static void tokensTakes0To9() {
        checks.sentence("Promise 5: the first count of a place is n from now on; n 0 .. 9");
        CoverTrees x = Nets.withPlaces(5, 5, 5, 5, 5, 5);
        checks.noArgument("tokens(5, 10)", Checks.nothing(() -> x.tokens(5, 10)));
        checks.noArgument("tokens(5, -1)", Checks.nothing(() -> x.tokens(5, -1)));
        x.tokens(0, 0);
        x.tokens(5, 9);
        checks.noIndex("tokens(6, 0)", Checks.nothing(() -> x.tokens(6, 0)));
        x.explore();
        for (int p = 0; p < 6; p++) {
            checks.due("count(0, " + p + ")", p == 0 ? 0 : p == 5 ? 9 : 5, x.count(0, p));
        }
        x.tokens(5, 0);
        x.tokens(0, 9);
        x.explore();
        checks.due("turned round: count(0, 0)", 9, x.count(0, 0));
        checks.due("turned round: count(0, 5)", 0, x.count(0, 5));
    }

    private static void enabledWhenNoPlaceHasLessThanItTakes() {
        checks.sentence("Terms: enabled when no place has less than it takes");
        CoverTrees x = Nets.withPlaces(4, 0, 0, 0, 0, 3);
        int t = x.transition();
        x.arc(0, t, 4, false);
        x.arc(5, t, 3, false);
        checks.due("as many as it takes: explore()", 2, x.explore());
        checks.due("as many as it takes: count(1, 0)", 0, x.count(1, 0));
        checks.due("as many as it takes: count(1, 5)", 0, x.count(1, 5));
        x.tokens(0, 3);
        checks.due("one less in the first place: explore()", 1, x.explore());
        x.tokens(0, 9);
        x.tokens(5, 2);
        checks.due("one less in the last place: explore()", 1, x.explore());
        x.arc(5, t, 2, false);
        checks.due("takes one less: explore()", 2, x.explore());
        checks.due("takes one less: count(1, 0)", 5, x.count(1, 0));
    }

    private static void firingItTakesAndGives() {
        checks.sentence("Terms: firing it takes and gives");
        CoverTrees x = Nets.withPlaces(4);
        int t = x.transition();
        x.arc(0, t, 4, false);
        x.arc(0, t, 4, true);
        checks.due("takes 4 and gives 4: explore()", 2, x.explore());
        checks.due("takes 4 and gives 4: node(1, 2)", 1, x.node(1, 2));
        x.tokens(0, 3);
        checks.due("gives 4, but has not 4 to take: explore()", 1, x.explore());
        x.tokens(0, 9);
        x.arc(0, t, 3, true);
        checks.due("takes 4 and gives 3: explore()", 7, x.explore());
        checks.due("takes 4 and gives 3: count(6, 0)", 3, x.count(6, 0));
    }

    private static CoverTrees fullWithGraph() {
        CoverTrees x = Nets.full();
        x.tokens(5, 0);
        return Nets.withGraph(x);
    }

    private static void dueDiscarded(String what, CoverTrees x) {
        checks.noState(what + ", then count(0, 0)", () -> x.count(0, 0));
        checks.noState(what + ", then node(0, 0)", () -> x.node(0, 0));
        checks.noState(what + ", then bound(0)", () -> x.bound(0));
        checks.noState(what + ", then covered()", Checks.yes(() -> x.covered()));
        checks.noState(what + ", then possible(0)", Checks.yes(() -> x.possible(0)));
        checks.noState(what + ", then growth(-1)", () -> x.growth(-1));
        checks.noState(what + ", then graph()", () -> x.graph());
        checks.noState(what + ", then reached()", () -> x.reached());
        checks.noState(what + ", then distance(0)", () -> x.distance(0));
        checks.noState(what + ", then found(0, true)", () -> x.found(0, true));
        checks.noState(what + ", then stops()", () -> x.stops());
        checks.noState(what + ", then live(0)", Checks.yes(() -> x.live(0)));
    }

    private static void toAddDiscardsTreeAndGraph() {
        checks.sentence("Terms: to add anything discards tree and graph");
        CoverTrees x = Nets.withGraph(Nets.ring());
        x.place(0);
        dueDiscarded("place(0)", x);
        CoverTrees y = Nets.withGraph(Nets.ring());
        y.transition();
        dueDiscarded("transition()", y);
        CoverTrees z = new CoverTrees();
        z.explore();
        z.graph();
        z.place(9);
        dueDiscarded("the first place", z);
        z.explore();
        z.graph();
        z.transition();
        dueDiscarded("the first transition", z);
    }

    private static void toChangeAlsoToWhatItIsDiscardsTreeAndGraph() {
        checks.sentence("Terms: to change anything (also to what it is already) discards tree and graph");
        for (int n = 0; n <= 4; n++) {
            for (int k = 0; k < 2; k++) {
                CoverTrees x = Nets.withGraph(Nets.ring());
                x.arc(0, 0, n, k == 1);
                dueDiscarded("arc(0, 0, " + n + ", " + (k == 1) + ")", x);
            }
        }
        for (int n = 0; n <= 9; n++) {
            CoverTrees x = Nets.withGraph(Nets.ring());
            x.tokens(0, n);
            dueDiscarded("tokens(0, " + n + ")", x);
        }
        CoverTrees y = fullWithGraph();
        y.arc(5, 7, 1, false);
        dueDiscarded("the last arc, to what it is", y);
        CoverTrees z = fullWithGraph();
        z.tokens(5, 0);
        dueDiscarded("the last place's tokens, to what they are", z);
    }

    private static void theTargetDiscardsNothing() {
        checks.sentence("Terms: to change anything (but the target) discards tree and graph");
        CoverTrees x = Nets.withGraph(Nets.ring());
        for (int n : new int[] {0, 1, 98, 99}) {
            x.want(1, n);
            checks.due("want(1, " + n + "), then count(2, 0)", 1, x.count(2, 0));
            checks.due("want(1, " + n + "), then covered()", n <= 1, x.covered());
            checks.due("want(1, " + n + "), then reached()", n == 1 ? 1 : NONE, x.reached());
            checks.due("want(1, " + n + "), then stops()", 0, x.stops());
        }
    }

    private static void wantTakes0To99() {
        checks.sentence("Promise 10: the target's count of a place becomes n; n 0 .. 99");
        CoverTrees x = Nets.heap(5, 3, 4);
        checks.noArgument("want(4, 100)", Checks.nothing(() -> x.want(4, 100)));
        checks.noArgument("want(4, -1)", Checks.nothing(() -> x.want(4, -1)));
        x.want(0, 1);
        x.want(1, 1);
        x.want(4, 99);
        checks.noIndex("want(5, 0)", Checks.nothing(() -> x.want(5, 0)));
        checks.due("explore()", 31, x.explore());
        checks.due("3 and 24 times 4 more: count(24, 4)", 99, x.count(24, 4));
        checks.due("explored, target of 99: covered()", true, x.covered());
        x.graph();
        checks.due("target of 99: reached()", 24, x.reached());
        x.want(4, 98);
        checks.due("target of 98: reached()", NONE, x.reached());
        x.want(0, 5);
        x.want(4, 3);
        checks.due("back to the first marking: reached()", 0, x.reached());
        x.want(4, 0);
        checks.due("target of 0: reached()", NONE, x.reached());
        checks.due("target of 0: covered()", true, x.covered());
    }

    private static void theTargetIsAll0AtFirst() {
        checks.sentence("Terms: the target is a marking, at first all 0 (also for a place that is added)");
        CoverTrees x = new CoverTrees();
        x.explore();
        x.graph();
        checks.due("no places: covered()", true, x.covered());
        checks.due("no places: reached()", 0, x.reached());
        for (int p = 0; p < 6; p++) {
            x.place(0);
            x.explore();
            x.graph();
            checks.due("place " + p + " with 0 added: covered()", true, x.covered());
            checks.due("place " + p + " with 0 added: reached()", 0, x.reached());
        }
        CoverTrees y = Nets.withPlaces(9);
        y.want(0, 9);
        y.place(9);
        y.explore();
        y.graph();
        checks.due("a place with 9 added: covered()", true, y.covered());
        checks.due("a place with 9 added: reached()", NONE, y.reached());
        y.want(1, 9);
        checks.due("want(1, 9): reached()", 0, y.reached());
    }

    private static void theTargetStaysWhenTheNetChanges() {
        checks.sentence("Promise 10: the target's count of a place becomes n (and stays so)");
        CoverTrees x = Nets.ring();
        x.want(1, 1);
        x.tokens(1, 0);
        x.arc(1, 1, 1, false);
        x.place(0);
        x.transition();
        x.explore();
        x.graph();
        x.explore();
        x.graph();
        checks.due("reached()", 1, x.reached());
    }

    private static void anObjectIsUsedFor512Calls() {
        checks.sentence("An object is used for at most 512 calls after it has been made");
        CoverTrees x = Nets.chain(9, 1, 0, 0, 0, 0);
        int calls = 6 + 5 + 5 * 12;
        for (; calls < 509; calls++) {
            checks.due("call " + calls + ": explore()", 100, x.explore());
        }
        x.tokens(0, 3);
        checks.due("call 511: explore()", 34, x.explore());
        checks.due("call 512: graph()", 34, x.graph());
        CoverTrees y = Nets.growing();
        for (calls = 3 + 2 + 12; calls < 511; calls++) {
            checks.due("call " + calls + ": explore()", 4, y.explore());
        }
        checks.due("call 512: bound(2)", ENDLESS, y.bound(2));
    }

    public static void main(String[] args) {
        constantsAreMinus1AndMinus2();
        aNewObjectHasNoPlacesNoTransitions();
        aNewObjectHasNoTreeAndNoGraph();
        placesAreAtMost6();
        transitionsAreAtMost8();
        placeTakesTokens0To9();
        arcAnswersWhatItWas();
        arcTakesNumbers0To4();
        takesAndGives0AtFirst();
        tokensTakes0To9();
        enabledWhenNoPlaceHasLessThanItTakes();
        firingItTakesAndGives();
        toAddDiscardsTreeAndGraph();
        toChangeAlsoToWhatItIsDiscardsTreeAndGraph();
        theTargetDiscardsNothing();
        wantTakes0To99();
        theTargetIsAll0AtFirst();
        theTargetStaysWhenTheNetChanges();
        anObjectIsUsedFor512Calls();
        checks.end();
    }
}
