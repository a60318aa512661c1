/** Promise 9: part. */
public final class PartTest {
    public static void main(String[] args) {
        Expect expect = new Expect();
        fromTheOutside(expect);
        latestRunThatThrewNothing(expect);
        atMostSixty(expect);
        deepFirstValues(expect);
        expect.finish();
    }

    private static void due(Expect expect, String what, SuccessKinds kinds, int... parts) {
        for (int i = 0; i < parts.length; i++) {
            int place = i;
            expect.is(what + ": part(" + i + ")", parts[i], () -> kinds.part(place));
        }
        for (int i : new int[] {parts.length, 59, 60, 61, -1, Integer.MAX_VALUE, Integer.MIN_VALUE}) {
            if (i < 0 || i >= parts.length) {
                expect.throwing(what + ": part(" + i + ")", Expect.INDEX, () -> kinds.part(i));
            }
        }
    }

    private static void fromTheOutside(Expect expect) {
        Maker maker = new Maker();
        SuccessKinds kinds = maker.kinds;
        kinds.define(0, maker.variable(0));
        int first = maker.pair(maker.number(-3), maker.atom(2));
        int second = maker.pair(maker.nil(), maker.pair(maker.number(0), maker.number(8)));
        int whole = maker.pair(first, second);
        kinds.run(0, whole, 0);
        due(expect, "pairs", kinds, 8, 8, -3, 2, 8, 7, 8, 0, 8);
        kinds.run(0, maker.number(Integer.MIN_VALUE), 0);
        due(expect, "number", kinds, Integer.MIN_VALUE);
        kinds.run(0, maker.atom(3), 0);
        due(expect, "atom", kinds, 3);
        kinds.run(0, maker.nil(), 0);
        due(expect, "nil", kinds, 7);
    }

    private static void latestRunThatThrewNothing(Expect expect) {
        Maker maker = new Maker();
        SuccessKinds kinds = maker.kinds;
        int x = maker.variable(0);
        int nil = maker.nil();
        int four = maker.number(4);
        int other = maker.pair(maker.pair(four, four), four);
        due(expect, "no run yet", kinds);
        expect.throwing("fails", Expect.UNSUPPORTED, () -> kinds.run(0, nil, 0));
        due(expect, "no good run yet", kinds);
        kinds.define(0, x);
        kinds.define(1, maker.head(maker.head(maker.head(x))));
        kinds.define(2, maker.pair(maker.call(2, x), x));
        int argument = maker.pair(nil, maker.pair(nil, four));
        kinds.run(0, argument, 0);
        due(expect, "good run", kinds, 8, 7, 8, 7, 4);
        expect.throwing("fails", Expect.UNSUPPORTED, () -> kinds.run(1, other, 0));
        due(expect, "a run that fails keeps it", kinds, 8, 7, 8, 7, 4);
        expect.throwing("is cut off", Expect.STATE, () -> kinds.run(2, other, 0));
        due(expect, "a run that is cut off keeps it", kinds, 8, 7, 8, 7, 4);
        expect.throwing("wrong call", Expect.ARGUMENT, () -> kinds.run(2, 90, 0));
        due(expect, "a wrong call keeps it", kinds, 8, 7, 8, 7, 4);
        kinds.define(0, nil);
        due(expect, "another body keeps it", kinds, 8, 7, 8, 7, 4);
        kinds.run(0, nil, 0);
        due(expect, "the next good run", kinds, 7);
    }

    /** Values of 59, 61 and 63 parts. */
    private static void atMostSixty(Expect expect) {
        Maker maker = new Maker();
        SuccessKinds kinds = maker.kinds;
        int x = maker.variable(0);
        int leaf = maker.number(9);
        int three = maker.pair(leaf, leaf);
        int seven = maker.pair(three, three);
        int fifteen = maker.pair(seven, seven);
        int thirtyOne = maker.pair(fifteen, fifteen);
        int twentySeven = maker.pair(fifteen, maker.pair(seven, three));
        kinds.define(0, maker.pair(x, x));
        kinds.run(0, thirtyOne, 0);
        expect.is("part(59) of 63", 9, () -> kinds.part(59));
        expect.throwing("part(60) of 63", Expect.INDEX, () -> kinds.part(60));
        expect.is("part(32) of 63", 8, () -> kinds.part(32));
        kinds.define(3, maker.pair(x, maker.variable(1)));
        kinds.run(3, thirtyOne, twentySeven);
        expect.is("part(58) of 59", 9, () -> kinds.part(58));
        expect.throwing("part(59) of 59", Expect.INDEX, () -> kinds.part(59));
        int twentyNine = maker.pair(maker.pair(seven, seven), maker.pair(seven, maker.pair(three, leaf)));
        kinds.run(3, thirtyOne, twentyNine);
        expect.is("part(59) of 61", 9, () -> kinds.part(59));
        expect.throwing("part(60) of 61", Expect.INDEX, () -> kinds.part(60));
    }

    private static void deepFirstValues(Expect expect) {
        Maker maker = new Maker();
        SuccessKinds kinds = maker.kinds;
        int x = maker.variable(0);
        int leaf = maker.number(5);
        int deep = x;
        for (int times = 0; times < 5; times++) {
            deep = maker.pair(deep, leaf);
        }
        kinds.define(1, deep);
        int call = x;
        for (int times = 0; times < 4; times++) {
            call = maker.call(1, call);
        }
        kinds.define(2, call);
        int argument = maker.nil();
        for (int times = 0; times < 4; times++) {
            argument = maker.call(1, argument);
        }
        int wanted = argument;
        expect.is("40 pairs", 8, () -> kinds.run(2, wanted, 0));
        int[] due = new int[60];
        for (int i = 0; i < 60; i++) {
            due[i] = i < 40 ? 8 : i == 40 ? 7 : 5;
        }
        due(expect, "40 pairs", kinds, due);
    }
}
