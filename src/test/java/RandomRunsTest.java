import java.util.List;
import java.util.Map;
import java.util.TreeMap;

/**
 * Runs of 512 calls, drawn by a fixed rule, on CoverTrees and on the Model of the same
 * document: every call must have the same outcome on both.
 */
public final class RandomRunsTest {
    private static final int RUNS = 1500;
    private static final int CALLS = 512;

    private static final Checks checks = new Checks("RandomRunsTest");
    private static final Map<String, Integer> met = new TreeMap<>();
    private static long seed = 12345;

    private final CoverTrees x = new CoverTrees();
    private final Model y = new Model();
    private final int run;
    private int places = 0;
    private int transitions = 0;
    private int nodes = 0;
    private int states = 0;

    private RandomRunsTest(int run) {
        this.run = run;
    }

    private static int draw(int below) {
        seed = seed * 6364136223846793005L + 1442695040888963407L;
        return (int) ((seed >>> 33) % below);
    }

    private String same(String what, Checks.Call onProgram, Checks.Call onModel) {
        String due = Checks.outcome(onModel);
        checks.text("run " + run + ": " + what, due, Checks.outcome(onProgram));
        String kind = what.substring(0, what.indexOf('('))
            + (due.startsWith("throws") || due.equals("-1") || due.equals("-2") ? " " + due : "");
        met.merge(kind, 1, Integer::sum);
        return due;
    }

    /** A number that is mostly one of 0 .. below - 1, at times just outside or far outside. */
    private static int near(int below) {
        switch (draw(40)) {
            case 0: return -1;
            case 1: return below;
            case 2: return draw(2) == 0 ? Integer.MIN_VALUE : Integer.MAX_VALUE;
            default: return below == 0 ? 0 : draw(below);
        }
    }

    private void build() {
        for (int k = 1 + draw(6); k > 0; k--) {
            addPlace();
        }
        for (int k = 1 + draw(6); k > 0; k--) {
            addTransition();
        }
        for (int t = 0; t < transitions && places > 0; t++) {
            setArc(draw(places), t, 1 + draw(2), false);
            setArc(draw(places), t, 1 + draw(2), true);
        }
    }

    private void addPlace() {
        int n = near(draw(3) == 0 ? 10 : 3);
        if (!same("place(" + n + ")", () -> x.place(n), () -> y.place(n)).startsWith("t")) {
            places++;
        }
    }

    private void addTransition() {
        if (!same("transition()", () -> x.transition(), () -> y.transition()).startsWith("t")) {
            transitions++;
        }
    }

    private void setArc(int p, int t, int n, boolean gives) {
        same("arc(" + p + ", " + t + ", " + n + ", " + gives + ")",
            () -> x.arc(p, t, n, gives), () -> y.arc(p, t, n, gives));
    }

    private void change() {
        switch (draw(8)) {
            case 0:
                addPlace();
                break;
            case 1:
                addTransition();
                break;
            case 2:
            case 3: {
                int p = near(places);
                int n = near(draw(3) == 0 ? 10 : 3);
                same("tokens(" + p + ", " + n + ")",
                    Checks.nothing(() -> x.tokens(p, n)), Checks.nothing(() -> y.tokens(p, n)));
                break;
            }
            default:
                setArc(near(places), near(transitions), draw(3) == 0 ? 0 : near(draw(4) == 0 ? 5 : 3),
                    draw(2) == 0);
        }
    }

    private void explore() {
        String due = same("explore()", () -> x.explore(), () -> y.explore());
        nodes = due.startsWith("t") ? 0 : Integer.parseInt(due);
    }

    private void makeGraph() {
        String due = same("graph()", () -> x.graph(), () -> y.graph());
        states = due.startsWith("t") ? 0 : Integer.parseInt(due);
    }

    private void askTree() {
        int n = near(nodes);
        int p = near(places);
        int t = near(transitions);
        int what = draw(7) - 2;
        switch (draw(6)) {
            case 0:
                same("count(" + n + ", " + p + ")", () -> x.count(n, p), () -> y.count(n, p));
                break;
            case 1:
                same("node(" + n + ", " + what + ")", () -> x.node(n, what), () -> y.node(n, what));
                break;
            case 2:
                same("bound(" + p + ")", () -> x.bound(p), () -> y.bound(p));
                break;
            case 3:
                same("covered()", Checks.yes(() -> x.covered()), Checks.yes(() -> y.covered()));
                break;
            case 4:
                same("possible(" + t + ")", Checks.yes(() -> x.possible(t)), Checks.yes(() -> y.possible(t)));
                break;
            default:
                same("growth(" + what + ")", () -> x.growth(what), () -> y.growth(what));
        }
    }

    private void askGraph() {
        int s = near(states);
        int t = near(transitions);
        switch (draw(6)) {
            case 0:
                same("reached()", () -> x.reached(), () -> y.reached());
                break;
            case 1:
                same("distance(" + s + ")", () -> x.distance(s), () -> y.distance(s));
                break;
            case 2:
                same("found(" + s + ", true)", () -> x.found(s, true), () -> y.found(s, true));
                break;
            case 3:
                same("found(" + s + ", false)", () -> x.found(s, false), () -> y.found(s, false));
                break;
            case 4:
                same("stops()", () -> x.stops(), () -> y.stops());
                break;
            default:
                same("live(" + t + ")", Checks.yes(() -> x.live(t)), Checks.yes(() -> y.live(t)));
        }
    }

    private void want() {
        int p = near(places);
        int n = draw(3) == 0 ? near(100) : near(3);
        same("want(" + p + ", " + n + ")",
            Checks.nothing(() -> x.want(p, n)), Checks.nothing(() -> y.want(p, n)));
    }

    /** Every answer that the tree and the graph have. */
    private void askAll() {
        for (int n = 0; n < nodes; n++) {
            int node = n;
            for (int p = 0; p < places; p++) {
                int place = p;
                checks.due("run " + run + ": count(" + n + ", " + p + ")", y.count(node, place), x.count(node, place));
            }
            for (int what = 0; what < 3; what++) {
                checks.due("run " + run + ": node(" + n + ", " + what + ")", y.node(node, what), x.node(node, what));
            }
        }
        for (int what = -1; nodes > 0 && what < 10; what++) {
            checks.due("run " + run + ": growth(" + what + ")", y.growth(what), x.growth(what));
        }
        if (nodes > 0 && y.growth(-1) != -2) {
            checks.due("run " + run + ": what growth tells can be repeated", true, y.growsByRepeating());
        }
        for (int s = 0; s < states; s++) {
            checks.due("run " + run + ": distance(" + s + ")", y.distance(s), x.distance(s));
            checks.due("run " + run + ": found(" + s + ", true)", y.found(s, true), x.found(s, true));
            checks.due("run " + run + ": found(" + s + ", false)", y.found(s, false), x.found(s, false));
        }
    }

    /** No reached marking passes a bound, or enables what is not possible. */
    private void holdAgainstReached() {
        boolean kept = true;
        for (List<Long> marking : y.someReached()) {
            for (int p = 0; p < places; p++) {
                kept &= x.bound(p) == -1 || marking.get(p) <= x.bound(p);
            }
            for (int t = 0; t < transitions; t++) {
                kept &= x.possible(t) || !y.enabled(marking, t);
            }
        }
        checks.due("run " + run + ": reached markings keep to the bounds", true, kept);
    }

    private void go() {
        if (draw(10) > 0) {
            build();
        }
        for (int call = 0; call < CALLS; call++) {
            int kind = draw(100);
            if (kind < 5) {
                change();
            } else if (kind < 12) {
                explore();
            } else if (kind < 20) {
                makeGraph();
            } else if (kind < 30) {
                want();
            } else if (kind < 65) {
                askTree();
            } else {
                askGraph();
            }
        }
        explore();
        makeGraph();
        askAll();
        if (nodes > 0) {
            holdAgainstReached();
        }
    }

    public static void main(String[] args) {
        for (int run = 0; run < RUNS; run++) {
            new RandomRunsTest(run).go();
        }
        if (args.length > 0) {
            System.out.println(met);
        }
        String[] kinds = {
            "place throws IllegalArgumentException", "place throws IllegalStateException",
            "transition throws IllegalStateException", "arc throws IndexOutOfBoundsException",
            "arc throws IllegalArgumentException", "tokens throws IllegalArgumentException",
            "explore throws UnsupportedOperationException", "count -1", "node -2", "bound -1",
            "want throws IllegalArgumentException", "growth -2", "growth -1",
            "graph throws IllegalStateException", "graph throws UnsupportedOperationException",
            "reached", "reached -2", "distance throws IndexOutOfBoundsException", "found -2",
            "stops throws IllegalStateException", "live throws IndexOutOfBoundsException", "live",
        };
        for (String kind : kinds) {
            checks.due("the runs have " + kind + " often", true, met.getOrDefault(kind, 0) >= 50);
        }
        checks.end();
    }
}
