/**
 * Two objects made by the same calls, one of which is then refused a call: both must go on
 * answering alike, for nothing has changed. An object is asked some 300 times, at most 512.
 */
final class Twins {
    interface Maker {
        CoverTrees make();
    }

    interface Refused {
        void call(CoverTrees x);
    }

    private Twins() {
    }

    static void due(Checks checks, String what, String exception, Maker maker, Refused refused) {
        CoverTrees asked = maker.make();
        CoverTrees other = maker.make();
        checks.text(what, "throws " + exception, Checks.outcome(Checks.nothing(() -> refused.call(asked))));
        String[] due = answers(other);
        String[] answered = answers(asked);
        for (int k = 0; k < due.length; k++) {
            checks.text(what + ", then", due[k], answered[k]);
        }
    }

    /** What the tree and the graph tell, then what the net is, then what comes when more is added. */
    private static String[] answers(CoverTrees x) {
        StringBuilder all = new StringBuilder();
        tree(x, all);
        graph(x, all);
        remade(x, all);
        arcs(x, all);
        added(x, all);
        return all.toString().split("\n");
    }

    private static void tell(StringBuilder all, String what, Checks.Call call) {
        all.append(what).append(" is ").append(Checks.outcome(call)).append('\n');
    }

    private static void tree(CoverTrees x, StringBuilder all) {
        for (int n = -1; n < 6; n++) {
            int node = n;
            for (int p = -1; p < 7; p++) {
                int place = p;
                tell(all, "count(" + n + ", " + p + ")", () -> x.count(node, place));
            }
            for (int w = 0; w < 3; w++) {
                int what = w;
                tell(all, "node(" + n + ", " + w + ")", () -> x.node(node, what));
            }
        }
        for (int k = -1; k < 9; k++) {
            int number = k;
            tell(all, "bound(" + k + ")", () -> x.bound(number));
            tell(all, "possible(" + k + ")", Checks.yes(() -> x.possible(number)));
        }
        for (int k = -2; k < 4; k++) {
            int what = k;
            tell(all, "growth(" + k + ")", () -> x.growth(what));
        }
        tell(all, "covered()", Checks.yes(() -> x.covered()));
    }

    private static void graph(CoverTrees x, StringBuilder all) {
        for (int s = -1; s < 6; s++) {
            int state = s;
            tell(all, "distance(" + s + ")", () -> x.distance(state));
            tell(all, "found(" + s + ", false)", () -> x.found(state, false));
            tell(all, "found(" + s + ", true)", () -> x.found(state, true));
        }
        for (int t = -1; t < 9; t++) {
            int transition = t;
            tell(all, "live(" + t + ")", Checks.yes(() -> x.live(transition)));
        }
        tell(all, "reached()", () -> x.reached());
        tell(all, "stops()", () -> x.stops());
    }

    private static void remade(CoverTrees x, StringBuilder all) {
        tell(all, "graph()", () -> x.graph());
        tell(all, "explore()", () -> x.explore());
        tell(all, "graph()", () -> x.graph());
        for (int p = 0; p < 6; p++) {
            int place = p;
            tell(all, "explored again: count(0, " + p + ")", () -> x.count(0, place));
        }
        tell(all, "explored again: covered()", Checks.yes(() -> x.covered()));
        tell(all, "explored again: reached()", () -> x.reached());
    }

    private static void arcs(CoverTrees x, StringBuilder all) {
        for (int p = 0; p < 6; p++) {
            for (int t = 0; t < 8; t++) {
                int place = p;
                int transition = t;
                tell(all, "arc(" + p + ", " + t + ", 1, false)", () -> x.arc(place, transition, 1, false));
                tell(all, "arc(" + p + ", " + t + ", 1, true)", () -> x.arc(place, transition, 1, true));
            }
        }
    }

    private static void added(CoverTrees x, StringBuilder all) {
        for (int k = 0; k < 7; k++) {
            tell(all, "place(0)", () -> x.place(0));
        }
        for (int k = 0; k < 9; k++) {
            tell(all, "transition()", () -> x.transition());
        }
        tell(all, "all added: explore()", () -> x.explore());
        tell(all, "all added: covered()", Checks.yes(() -> x.covered()));
        tell(all, "all added: graph()", () -> x.graph());
        tell(all, "all added: reached()", () -> x.reached());
    }
}
