import java.util.ArrayDeque;
import java.util.Arrays;
import java.util.Deque;
import java.util.HashSet;
import java.util.Set;

/**
 * Promises 9, 11 and 12 held against their own words, also where places are endless: small
 * nets, drawn by a fixed rule, and the markings that plain firing reaches with no count above
 * a ceiling, without any tree. What is covered, possible and a greatest count must be met there.
 */
public final class ReachedTest {
    private static final int NETS = 2500;
    private static final int CEILING = 40;
    private static final int MOST_MARKINGS = 60000;
    // What plain firing must at least show of an endless place, below the ceiling.
    private static final int MANY = 12;

    private static final Checks checks = new Checks("ReachedTest");
    private static long seed = 2026;
    private static int endlessBounds = 0;
    private static int numbersBesideEndless = 0;

    private final CoverTrees x = new CoverTrees();
    private final String name;
    private final int[] first;
    private final int[][] takes;
    private final int[][] gives;
    private final Set<String> seen = new HashSet<>();
    private final Deque<int[]> toFire = new ArrayDeque<>();

    private ReachedTest(int number) {
        name = "net " + number + ": ";
        first = new int[1 + draw(3)];
        takes = new int[1 + draw(5)][first.length];
        gives = new int[takes.length][first.length];
    }

    private static int draw(int below) {
        seed = seed * 6364136223846793005L + 1442695040888963407L;
        return (int) ((seed >>> 33) % below);
    }

    private void build() {
        for (int p = 0; p < first.length; p++) {
            first[p] = draw(3);
            x.place(first[p]);
        }
        for (int t = 0; t < takes.length; t++) {
            x.transition();
            for (int p = 0; p < first.length; p++) {
                takes[t][p] = draw(3) == 0 ? draw(3) : 0;
                gives[t][p] = draw(3) == 0 ? draw(3) : 0;
                x.arc(p, t, takes[t][p], false);
                x.arc(p, t, gives[t][p], true);
            }
        }
    }

    private static boolean covers(int[] marking, int[] other) {
        for (int p = 0; p < other.length; p++) {
            if (marking[p] < other[p]) {
                return false;
            }
        }
        return true;
    }

    private void meet(int[] marking) {
        boolean below = Arrays.stream(marking).allMatch(count -> count <= CEILING);
        if (below && seen.size() < MOST_MARKINGS && seen.add(Arrays.toString(marking))) {
            toFire.add(marking);
        }
    }

    private Set<int[]> reached() {
        Set<int[]> reached = new HashSet<>();
        meet(first);
        while (!toFire.isEmpty()) {
            int[] marking = toFire.remove();
            reached.add(marking);
            for (int t = 0; t < takes.length; t++) {
                if (covers(marking, takes[t])) {
                    int[] after = marking.clone();
                    for (int p = 0; p < after.length; p++) {
                        after[p] += gives[t][p] - takes[t][p];
                    }
                    meet(after);
                }
            }
        }
        return reached;
    }

    private void checkBounds(Set<int[]> reached) {
        boolean grows = x.growth(-1) != CoverTrees.NONE;
        for (int p = 0; p < first.length; p++) {
            int place = p;
            int greatest = reached.stream().mapToInt(marking -> marking[place]).max().getAsInt();
            int bound = x.bound(p);
            if (bound == CoverTrees.ENDLESS) {
                endlessBounds++;
                checks.due(name + "bound(" + p + ") is ENDLESS, many are reached", true, greatest >= MANY);
            } else {
                numbersBesideEndless += grows ? 1 : 0;
                checks.due(name + "bound(" + p + ")", greatest, bound);
            }
        }
    }

    private void checkPossible(Set<int[]> reached) {
        for (int t = 0; t < takes.length; t++) {
            int[] least = takes[t];
            checks.due(name + "possible(" + t + ")",
                reached.stream().anyMatch(marking -> covers(marking, least)), x.possible(t));
        }
    }

    private void checkCovered(Set<int[]> reached) {
        for (int round = 0; round < 6; round++) {
            int[] target = new int[first.length];
            for (int p = 0; p < target.length; p++) {
                target[p] = draw(4);
                x.want(p, target[p]);
            }
            checks.due(name + "covered() of " + Arrays.toString(target),
                reached.stream().anyMatch(marking -> covers(marking, target)), x.covered());
        }
    }

    private void go() {
        build();
        if (Checks.outcome(() -> x.explore()).startsWith("throws")) {
            return;
        }
        Set<int[]> reached = reached();
        checkBounds(reached);
        checkPossible(reached);
        checkCovered(reached);
    }

    public static void main(String[] args) {
        for (int number = 0; number < NETS; number++) {
            new ReachedTest(number).go();
        }
        checks.due("the nets have endless places often", true, endlessBounds > 500);
        checks.due("the nets have numbers beside endless places often", true, numbersBesideEndless > 200);
        checks.end();
    }
}
