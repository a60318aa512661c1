import java.util.HashMap;
import java.util.Map;

/** Expressions of a wanted size, or that take a wanted number of steps, pairs or failures. */
final class Sized {
    private static final int GREATEST = 60;
    private static final int TOO_DEEP = 99;

    private final Maker maker;
    private final Map<String, Integer> made = new HashMap<>();

    Sized(Maker maker) {
        this.maker = maker;
    }

    /** Of size 1 to 60, as flat as can be: no deeper than 4. It is not for running. */
    int ofSize(int size) {
        if (size == 1) {
            return once("nil", () -> maker.nil());
        }
        if (size == 2) {
            return once("size 2", () -> maker.head(ofSize(1)));
        }
        if (size == 3) {
            return once("size 3", () -> maker.pair(ofSize(1), ofSize(1)));
        }
        int third = (size - 1) / 3;
        int rest = size - 1 - third;
        return once("size " + size,
                () -> maker.caseOf(ofSize(third), 0, ofSize(rest / 2), ofSize(rest - rest / 2)));
    }

    /** Works out that many expressions, 1 to 60 but not 2, and gives nil. */
    int ofSteps(int steps) {
        if (steps == 1) {
            return once("nil", () -> maker.nil());
        }
        if (steps == 4) {
            return once("steps 4", () -> maker.head(maker.pair(ofSteps(1), ofSteps(1))));
        }
        int first = bestSplit(steps);
        return once("steps " + steps, () -> maker.let(2, ofSteps(first), ofSteps(steps - 1 - first)));
    }

    private static int bestSplit(int steps) {
        int[] depths = new int[GREATEST + 1];
        int[] splits = new int[GREATEST + 1];
        depths[2] = TOO_DEEP;
        for (int n = 3; n <= steps; n++) {
            depths[n] = n == 4 ? 2 : TOO_DEEP;
            for (int first = 1; first <= n - 2 && n != 4; first++) {
                int depth = 1 + Math.max(depths[first], depths[n - 1 - first]);
                if (depth < depths[n]) {
                    depths[n] = depth;
                    splits[n] = first;
                }
            }
        }
        return splits[steps];
    }

    /** Makes that many pairs, up to 29, and gives nil or the outermost one. */
    int ofPairs(int pairs) {
        if (pairs == 0) {
            return once("nil", () -> maker.nil());
        }
        int first = (pairs - 1) / 2;
        return once("pairs " + pairs, () -> maker.pair(ofPairs(first), ofPairs(pairs - 1 - first)));
    }

    /** Fails that many times, up to 7, catches it, and gives nil. */
    int ofFailures(int failures) {
        if (failures == 0) {
            return once("nil", () -> maker.nil());
        }
        if (failures == 1) {
            return once("failures 1", () -> maker.attempt(maker.fail(), maker.nil()));
        }
        int first = failures / 2;
        return once("failures " + failures, () -> maker.let(2, ofFailures(first), ofFailures(failures - first)));
    }

    private int once(String name, Expect.Call making) {
        Integer known = made.get(name);
        if (known == null) {
            known = (int) making.answer();
            made.put(name, known);
        }
        return known;
    }
}
