/** Promises 6 to 13: the tree and what it tells. */
public final class TreeTest {
    private static final int ENDLESS = CoverTrees.ENDLESS;
    private static final int NONE = CoverTrees.NONE;
    private static final Checks checks = new Checks("TreeTest");

    private static void copies() {
        CoverTrees x = Nets.diamond();
        checks.due("diamond: explore()", 5, x.explore());
        checks.dueNode(x, 0, NONE, NONE, 0, 1, 1, 0);
        checks.dueNode(x, 1, 0, 0, 0, 0, 1, 1);
        checks.dueNode(x, 2, 1, 1, 0, 0, 0, 2);
        checks.dueNode(x, 3, 0, 1, 0, 1, 0, 1);
        checks.dueNode(x, 4, 3, 0, 1, 0, 0, 2);
        checks.due("diamond: node(0, 3)", NONE, x.node(0, 3));
        checks.due("diamond: node(4, 3)", NONE, x.node(4, 3));
        checks.due("diamond: node(4, -1)", NONE, x.node(4, -1));
        checks.due("diamond: node(4, most)", NONE, x.node(4, Integer.MAX_VALUE));
        checks.noIndex("diamond: node(5, 0)", () -> x.node(5, 0));
        checks.noIndex("diamond: node(-1, 3)", () -> x.node(-1, 3));
        checks.noIndex("diamond: count(5, 0)", () -> x.count(5, 0));
        checks.noIndex("diamond: count(-1, 0)", () -> x.count(-1, 0));
        checks.noIndex("diamond: count(0, 3)", () -> x.count(0, 3));
        checks.noIndex("diamond: count(0, -1)", () -> x.count(0, -1));
        checks.due("diamond: explore() again", 5, x.explore());
    }

    /** A child's own children come before the next child. */
    private static void numbersGoDownFirst() {
        CoverTrees x = Nets.withPlaces(1, 0, 0, 0);
        Nets.add(x, Nets.row(1, 0, 0, 0), Nets.row(0, 1, 0, 0));
        Nets.add(x, Nets.row(1, 0, 0, 0), Nets.row(0, 0, 1, 0));
        Nets.add(x, Nets.row(0, 1, 0, 0), Nets.row(0, 0, 0, 1));
        checks.due("down first: explore()", 4, x.explore());
        checks.dueNode(x, 1, 0, 0, 0, 0, 1, 0, 0);
        checks.dueNode(x, 2, 1, 2, 0, 0, 0, 0, 1);
        checks.dueNode(x, 3, 0, 1, 0, 0, 0, 1, 0);
    }

    private static void growing() {
        CoverTrees x = Nets.growing();
        checks.due("growing: explore()", 4, x.explore());
        checks.dueNode(x, 1, 0, 0, 0, 0, 1, 0);
        checks.dueNode(x, 2, 1, 1, 0, 0, 1, ENDLESS);
        checks.dueNode(x, 3, 2, 1, 1, 0, 1, ENDLESS);
        checks.due("growing: bound(0)", 1, x.bound(0));
        checks.due("growing: bound(1)", 1, x.bound(1));
        checks.due("growing: bound(2)", ENDLESS, x.bound(2));
        checks.due("growing: growth(-1)", 1, x.growth(-1));
        checks.due("growing: growth(0)", 0, x.growth(0));
        checks.due("growing: growth(1)", 1, x.growth(1));
        checks.due("growing: growth(2)", -1, x.growth(2));
        checks.due("growing: growth(most)", -1, x.growth(Integer.MAX_VALUE));
        checks.noArgument("growing: growth(-2)", () -> x.growth(-2));
        checks.noArgument("growing: growth(least)", () -> x.growth(Integer.MIN_VALUE));
    }

    /** What the parent made endless lets the root, further up, make another count endless. */
    private static void endlessAsItIsByThen() {
        CoverTrees x = Nets.withPlaces(2, 0);
        Nets.add(x, Nets.row(2, 0), Nets.row(0, 1));
        Nets.add(x, Nets.row(0, 1), Nets.row(1, 1));
        checks.due("by then: explore()", 5, x.explore());
        checks.dueNode(x, 1, 0, 0, 0, 0, 1);
        checks.dueNode(x, 2, 1, 1, 0, ENDLESS, ENDLESS);
        checks.dueNode(x, 3, 2, 0, 1, ENDLESS, ENDLESS);
        checks.dueNode(x, 4, 2, 1, 1, ENDLESS, ENDLESS);
        checks.due("by then: growth(-1)", 1, x.growth(-1));
        checks.due("by then: growth(0)", 0, x.growth(0));
        checks.due("by then: growth(1)", 1, x.growth(1));
        checks.due("by then: growth(2)", -1, x.growth(2));
    }

    /** The root, not the parent, makes the count endless: nothing comes before what repeats. */
    private static void endlessByTheRoot() {
        CoverTrees x = Nets.withPlaces(1, 0, 0);
        Nets.add(x, Nets.row(1, 0, 0), Nets.row(0, 1, 0));
        Nets.add(x, Nets.row(0, 1, 0), Nets.row(1, 0, 2));
        checks.due("by the root: explore()", 5, x.explore());
        checks.dueNode(x, 1, 0, 0, 0, 0, 1, 0);
        checks.dueNode(x, 2, 1, 1, 0, 1, 0, ENDLESS);
        checks.dueNode(x, 3, 2, 0, 0, 0, 1, ENDLESS);
        checks.dueNode(x, 4, 3, 1, 1, 1, 0, ENDLESS);
        checks.due("by the root: growth(-1)", 0, x.growth(-1));
        checks.due("by the root: growth(1)", 1, x.growth(1));
        checks.due("by the root: growth(2)", -1, x.growth(2));
    }

    private static void limitOfNodes() {
        CoverTrees x = Nets.grid(7, 6, 2);
        checks.due("100 nodes: explore()", 100, x.explore());
        checks.due("100 nodes: node(99, 2)", 1, x.node(99, 2));
        checks.noIndex("100 nodes: node(100, 2)", () -> x.node(100, 2));
        checks.tooMany("100 nodes, 58 states: graph()", () -> x.graph());
        checks.noState("58 states: stops()", () -> x.stops());
        checks.due("after graph() threw: bound(0)", 7, x.bound(0));
        CoverTrees y = Nets.grid(7, 6, 3);
        checks.tooMany("101 nodes: explore()", () -> y.explore());
        checks.noState("101 nodes: count(0, 0)", () -> y.count(0, 0));
        checks.noState("101 nodes: graph()", () -> y.graph());
        checks.tooMany("101 nodes: explore() again", () -> y.explore());
        y.tokens(0, 0);
        checks.due("fewer nodes: explore()", 10, y.explore());
    }

    private static void bounds() {
        CoverTrees x = Nets.withPlaces(4, 0, 0);
        Nets.add(x, Nets.row(2, 0, 0), Nets.row(0, 3, 0));
        Nets.add(x, Nets.row(0, 4, 0), Nets.row(0, 0, 1));
        checks.noState("no tree: bound(3)", () -> x.bound(3));
        x.explore();
        checks.due("bound(0)", 4, x.bound(0));
        checks.due("bound(1)", 6, x.bound(1));
        checks.due("bound(2)", 1, x.bound(2));
        checks.noIndex("bound(3)", () -> x.bound(3));
        checks.noIndex("bound(-1)", () -> x.bound(-1));
    }

    /** A smaller tree tells nothing of the greater one that was there before. */
    private static void smallerTree() {
        CoverTrees x = Nets.diamond();
        x.explore();
        x.tokens(0, 0);
        x.tokens(1, 0);
        checks.due("no tokens: explore()", 1, x.explore());
        checks.due("no tokens: bound(0)", 0, x.bound(0));
        checks.due("no tokens: bound(2)", 0, x.bound(2));
        checks.due("no tokens: possible(0)", false, x.possible(0));
        checks.noIndex("no tokens: count(1, 0)", () -> x.count(1, 0));
        x.want(2, 1);
        checks.due("no tokens: covered()", false, x.covered());
        CoverTrees y = Nets.growing();
        y.explore();
        y.arc(2, 1, 0, true);
        y.explore();
        checks.due("grows no more: growth(-1)", NONE, y.growth(-1));
        checks.due("grows no more: graph()", 2, y.graph());
    }

    private static void target() {
        CoverTrees x = Nets.diamond();
        checks.noIndex("want(3, 0)", Checks.nothing(() -> x.want(3, 0)));
        checks.noIndex("want(-1, 100)", Checks.nothing(() -> x.want(-1, 100)));
        checks.noArgument("want(0, 100)", Checks.nothing(() -> x.want(0, 100)));
        checks.noArgument("want(0, -1)", Checks.nothing(() -> x.want(0, -1)));
        checks.noState("no tree: covered()", Checks.yes(() -> x.covered()));
        x.explore();
        checks.due("all 0: covered()", true, x.covered());
        x.want(2, 2);
        checks.due("(0, 0, 2): covered()", true, x.covered());
        x.want(0, 1);
        checks.due("(1, 0, 2): covered()", false, x.covered());
        x.want(2, 1);
        checks.due("(1, 0, 1): covered()", true, x.covered());
        x.want(1, 1);
        checks.due("(1, 1, 1), each by itself: covered()", false, x.covered());
        x.want(2, 0);
        checks.due("(1, 1, 0): covered()", true, x.covered());
        x.place(0);
        x.explore();
        checks.due("a place more, target 0: covered()", true, x.covered());
        x.want(3, 1);
        checks.due("more than it can have: covered()", false, x.covered());
    }

    private static void targetOfEndless() {
        CoverTrees x = Nets.growing();
        x.want(2, 99);
        x.explore();
        checks.due("99 of an endless place: covered()", true, x.covered());
        x.want(1, 1);
        checks.due("and 1 of place 1: covered()", true, x.covered());
        x.want(0, 1);
        checks.due("and 1 of place 0: covered()", false, x.covered());
    }

    private static void possible() {
        CoverTrees x = Nets.growing();
        Nets.add(x, Nets.row(0, 0, 4), Nets.row(0, 0, 4));
        Nets.add(x, Nets.row(1, 0, 1), Nets.row(1, 0, 1));
        Nets.add(x, Nets.row(1, 0, 0), Nets.row(1, 0, 0));
        Nets.add(x, Nets.row(1, 1, 0), Nets.row(0, 0, 0));
        checks.noState("no tree: possible(6)", Checks.yes(() -> x.possible(6)));
        x.explore();
        checks.due("possible(0)", true, x.possible(0));
        checks.due("possible(1)", true, x.possible(1));
        checks.due("takes 4 of an endless place: possible(2)", true, x.possible(2));
        checks.due("takes what is never there together: possible(3)", false, x.possible(3));
        checks.due("only at first: possible(4)", true, x.possible(4));
        checks.due("takes two that are never there together: possible(5)", false, x.possible(5));
        checks.noIndex("possible(6)", Checks.yes(() -> x.possible(6)));
        checks.noIndex("possible(-1)", Checks.yes(() -> x.possible(-1)));
    }

    private static void nothingGrows() {
        CoverTrees x = Nets.ring();
        checks.noState("no tree: growth(-2)", () -> x.growth(-2));
        x.explore();
        checks.due("ring: growth(-1)", NONE, x.growth(-1));
        checks.due("ring: growth(0)", NONE, x.growth(0));
        checks.due("ring: growth(7)", NONE, x.growth(7));
        checks.noArgument("ring: growth(-2)", () -> x.growth(-2));
    }

    private static void withoutTree() {
        CoverTrees x = Nets.ring();
        checks.noState("no tree: count(-1, -1)", () -> x.count(-1, -1));
        checks.noState("no tree: node(-1, 0)", () -> x.node(-1, 0));
        checks.noState("no tree: bound(-1)", () -> x.bound(-1));
        checks.noState("no tree: possible(-1)", Checks.yes(() -> x.possible(-1)));
        checks.noState("no tree: growth(0)", () -> x.growth(0));
    }

    public static void main(String[] args) {
        copies();
        numbersGoDownFirst();
        growing();
        endlessAsItIsByThen();
        endlessByTheRoot();
        limitOfNodes();
        bounds();
        smallerTree();
        target();
        targetOfEndless();
        possible();
        nothingGrows();
        withoutTree();
        checks.end();
    }
}
