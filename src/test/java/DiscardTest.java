/** What discards tree and graph, and what leaves all as it is ('Terms'). */
public final class DiscardTest {
    private static final Checks checks = new Checks("DiscardTest");

    private static void dueDiscarded(String what, Checks.Call change, CoverTrees x) {
        Checks.outcome(change);
        checks.noState(what + ", then covered()", Checks.yes(() -> x.covered()));
        checks.noState(what + ", then stops()", () -> x.stops());
        checks.noState(what + ", then graph()", () -> x.graph());
    }

    private static void dueKept(String what, Checks.Call call, CoverTrees x) {
        Checks.outcome(call);
        checks.text(what + ", then covered()", "1", Checks.outcome(Checks.yes(() -> x.covered())));
        checks.text(what + ", then stops()", "0", Checks.outcome(() -> x.stops()));
        checks.text(what + ", then distance(1)", "1", Checks.outcome(() -> x.distance(1)));
    }

    private static void changes() {
        CoverTrees a = Nets.withGraph(Nets.ring());
        dueDiscarded("place(0)", () -> a.place(0), a);
        CoverTrees b = Nets.withGraph(Nets.ring());
        dueDiscarded("transition()", () -> b.transition(), b);
        CoverTrees c = Nets.withGraph(Nets.ring());
        dueDiscarded("arc(0, 0, 2, false)", () -> c.arc(0, 0, 2, false), c);
        CoverTrees d = Nets.withGraph(Nets.ring());
        dueDiscarded("arc(0, 0, 1, false), what it is", () -> d.arc(0, 0, 1, false), d);
        CoverTrees e = Nets.withGraph(Nets.ring());
        dueDiscarded("tokens(0, 2)", Checks.nothing(() -> e.tokens(0, 2)), e);
        CoverTrees f = Nets.withGraph(Nets.ring());
        dueDiscarded("tokens(0, 1), what it is", Checks.nothing(() -> f.tokens(0, 1)), f);
        CoverTrees g = Nets.withGraph(Nets.ring());
        g.explore();
        checks.noState("explore(), then stops()", () -> g.stops());
        checks.due("explore(), then covered()", true, g.covered());
    }

    private static void noChanges() {
        CoverTrees x = Nets.withGraph(Nets.ring());
        dueKept("want(0, 0)", Checks.nothing(() -> x.want(0, 0)), x);
        dueKept("want(0, 1)", Checks.nothing(() -> x.want(0, 1)), x);
        checks.due("want(0, 1), then reached()", 0, x.reached());
        dueKept("graph()", () -> x.graph(), x);
        dueKept("place(10)", () -> x.place(10), x);
        dueKept("arc(0, 0, 5, true)", () -> x.arc(0, 0, 5, true), x);
        dueKept("arc(0, 2, 1, true)", () -> x.arc(0, 2, 1, true), x);
        dueKept("tokens(0, 10)", Checks.nothing(() -> x.tokens(0, 10)), x);
        dueKept("tokens(2, 1)", Checks.nothing(() -> x.tokens(2, 1)), x);
        dueKept("want(0, 100)", Checks.nothing(() -> x.want(0, 100)), x);
        checks.due("want(0, 100), then reached()", 0, x.reached());
        dueKept("count(9, 9)", () -> x.count(9, 9), x);
        dueKept("growth(-2)", () -> x.growth(-2), x);
        dueKept("distance(2)", () -> x.distance(2), x);
        dueKept("live(2)", Checks.yes(() -> x.live(2)), x);
    }

    private static void throwsOfFullNets() {
        CoverTrees x = Nets.withGraph(Nets.ring());
        for (int p = 2; p < 6; p++) {
            x.place(0);
        }
        for (int t = 2; t < 8; t++) {
            int added = x.transition();
            x.arc(5, added, 1, false);
        }
        x.explore();
        x.graph();
        dueKept("place(0), the seventh", () -> x.place(0), x);
        dueKept("transition(), the ninth", () -> x.transition(), x);
    }

    private static void targetStays() {
        CoverTrees x = Nets.withGraph(Nets.ring());
        x.want(1, 1);
        x.place(0);
        x.transition();
        x.explore();
        x.graph();
        checks.due("the target stays: reached()", 1, x.reached());
        x.tokens(0, 0);
        x.explore();
        checks.due("the target stays: covered()", false, x.covered());
    }

    private static void thrownArcsChangeNothing() {
        CoverTrees x = Nets.ring();
        Checks.outcome(() -> x.arc(0, 0, 5, false));
        Checks.outcome(() -> x.arc(0, 0, -1, true));
        checks.due("arc(0, 0, 1, false)", 1, x.arc(0, 0, 1, false));
        checks.due("arc(0, 0, 0, true)", 0, x.arc(0, 0, 0, true));
        checks.due("place(0)", 2, x.place(0));
        checks.due("transition()", 2, x.transition());
    }

    /** Nothing wears out in the calls that an object is made for. */
    private static void manyCalls() {
        CoverTrees x = Nets.grid(3, 9, 0);
        for (int round = 0; round < 200; round++) {
            checks.due("round " + round + ": explore()", 67, x.explore());
            checks.due("round " + round + ": graph()", 40, x.graph());
        }
    }

    public static void main(String[] args) {
        changes();
        noChanges();
        throwsOfFullNets();
        targetStays();
        thrownArcsChangeNothing();
        manyCalls();
        checks.end();
    }
}
