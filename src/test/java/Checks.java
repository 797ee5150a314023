/** Counts the answers that are not as due; one for each test. */
final class Checks {
    interface Call {
        long answer();
    }

    private final String test;
    private String sentence = "";
    private int sentences = 0;
    private int made = 0;
    private int wrong = 0;

    Checks(String test) {
        this.test = test;
    }

    /** The sentence of the document that the answers from here on are due by. */
    void sentence(String words) {
        sentence = " [" + words + "]";
        sentences++;
    }

    void due(String what, long due, long answered) {
        made++;
        if (due != answered) {
            tellWrong(what, "" + due, "" + answered);
        }
    }

    private void tellWrong(String what, String due, String answered) {
        wrong++;
        System.out.println(test + sentence + ": " + what + " answered " + answered + ", due is " + due);
    }

    void due(String what, boolean due, boolean answered) {
        due(what, due ? 1 : 0, answered ? 1 : 0);
    }

    void text(String what, String due, String answered) {
        made++;
        if (!due.equals(answered)) {
            tellWrong(what, due, answered);
        }
    }

    void noState(String what, Call call) {
        text(what, "throws IllegalStateException", outcome(call));
    }

    void noIndex(String what, Call call) {
        text(what, "throws IndexOutOfBoundsException", outcome(call));
    }

    void noArgument(String what, Call call) {
        text(what, "throws IllegalArgumentException", outcome(call));
    }

    void tooMany(String what, Call call) {
        text(what, "throws UnsupportedOperationException", outcome(call));
    }

    /** Parent, transition, whether a copy, and the marking, as far as it is told. */
    void dueNode(CoverTrees x, int node, int parent, int by, int copy, int... marking) {
        due("node(" + node + ", 0)", parent, x.node(node, 0));
        due("node(" + node + ", 1)", by, x.node(node, 1));
        due("node(" + node + ", 2)", copy, x.node(node, 2));
        for (int p = 0; p < marking.length; p++) {
            due("count(" + node + ", " + p + ")", marking[p], x.count(node, p));
        }
    }

    void dueState(CoverTrees x, int state, int distance, int by, int from) {
        due("distance(" + state + ")", distance, x.distance(state));
        due("found(" + state + ", false)", by, x.found(state, false));
        due("found(" + state + ", true)", from, x.found(state, true));
    }

    /** What a call answers or throws, as a text. */
    static String outcome(Call call) {
        try {
            return "" + call.answer();
        } catch (RuntimeException e) {
            return "throws " + e.getClass().getSimpleName();
        }
    }

    static Call nothing(Runnable call) {
        return () -> {
            call.run();
            return 0;
        };
    }

    static Call yes(java.util.function.BooleanSupplier call) {
        return () -> call.getAsBoolean() ? 1 : 0;
    }

    void end() {
        System.out.println(test + ": " + made + " answers"
            + (sentences > 0 ? " for " + sentences + " sentences" : "") + ", " + wrong + " not as due");
        if (wrong != 0) {
            System.exit(1);
        }
    }
}
