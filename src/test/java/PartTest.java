/** Promise 9: part. */
public final class PartTest {
    public static void main(String[] args) {
        Expect expect = new Expect();
        fromTheOutside(expect);
        deepFirstValues(expect);
        expect.finish();
    }

    private static void due(Expect expect, String what, SuccessKinds kinds, int... parts) {
        for (int i = 0; i < parts.length; i++) {
            int place = i;
            expect.is(what + ": part(" + i + ")", parts[i], () -> kinds.part(place));
        }
        for (int i : new int[] {parts.length, 59, 60, 61, -1, Integer.MAX_VALUE, Integer.MIN_VALUE}) {
            if (i < 0 || i >= parts.length) {
                expect.throwing(what + ": part(" + i + ")", Expect.INDEX, () -> kinds.part(i));
            }
        }
    }

    private static void fromTheOutside(Expect expect) {
        Maker maker = new Maker();
        SuccessKinds kinds = maker.kinds;
        kinds.define(0, maker.variable(0));
        int first = maker.pair(maker.number(-3), maker.atom(2));
        int second = maker.pair(maker.nil(), maker.pair(maker.number(0), maker.number(8)));
        int whole = maker.pair(first, second);
        kinds.run(0, whole, 0);
        due(expect, "pairs", kinds, 8, 8, -3, 2, 8, 7, 8, 0, 8);
        kinds.run(0, maker.number(Integer.MIN_VALUE), 0);
        due(expect, "number", kinds, Integer.MIN_VALUE);
        kinds.run(0, maker.atom(3), 0);
        due(expect, "atom", kinds, 3);
        kinds.run(0, maker.nil(), 0);
        due(expect, "nil", kinds, 7);
    }

    private static void deepFirstValues(Expect expect) {
        Maker maker = new Maker();
        SuccessKinds kinds = maker.kinds;
        int x = maker.variable(0);
        int leaf = maker.number(5);
        int deep = x;
        for (int times = 0; times < 5; times++) {
            deep = maker.pair(deep, leaf);
        }
        kinds.define(1, deep);
        int call = x;
        for (int times = 0; times < 4; times++) {
            call = maker.call(1, call);
        }
        kinds.define(2, call);
        int argument = maker.nil();
        for (int times = 0; times < 4; times++) {
            argument = maker.call(1, argument);
        }
        int wanted = argument;
        expect.is("40 pairs", 8, () -> kinds.run(2, wanted, 0));
        int[] due = new int[60];
        for (int i = 0; i < 60; i++) {
            due[i] = i < 40 ? 8 : i == 40 ? 7 : 5;
        }
        due(expect, "40 pairs", kinds, due);
    }
}
