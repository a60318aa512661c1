/** Edges of part: which run it tells of, how many parts there are, and the last one that it tells. */
public final class PartEdgesTest {
    public static void main(String[] args) {
        Expect expect = new Expect();
        noRunYet(expect);
        latestRunThatThrewNothing(expect);
        onePart(expect);
        noSuchPart(expect);
        aboveFiftyNine(expect);
        kindsAndNumbers(expect);
        fewerPartsThanBefore(expect);
        expect.finish();
    }

    private static void due(Expect expect, String what, SuccessKinds kinds, int... parts) {
        for (int i = 0; i < parts.length; i++) {
            int place = i;
            expect.is(what + ": part(" + i + ")", parts[i], () -> kinds.part(place));
        }
        for (int i : new int[] {-1, parts.length, parts.length + 1, 59, 60, Integer.MAX_VALUE, Integer.MIN_VALUE}) {
            if (i < 0 || i >= parts.length) {
                expect.throwing(what + ": part(" + i + ")", Expect.INDEX, () -> kinds.part(i));
            }
        }
    }

    private static void noRunYet(Expect expect) {
        Maker maker = new Maker();
        SuccessKinds kinds = maker.kinds;
        due(expect, "a new object", kinds);
        int nil = maker.nil();
        int x = maker.variable(0);
        due(expect, "no body yet", kinds);
        expect.throwing("no body", Expect.UNSUPPORTED, () -> kinds.run(0, nil, 0));
        due(expect, "a run without a body", kinds);
        kinds.define(0, maker.call(0, x));
        due(expect, "no run yet", kinds);
        expect.throwing("too deep", Expect.STATE, () -> kinds.run(0, nil, 0));
        due(expect, "a run that was cut off", kinds);
        expect.throwing("no expression", Expect.ARGUMENT, () -> kinds.run(0, -1, 0));
        due(expect, "a run that was refused", kinds);
        kinds.define(0, x);
        expect.is("the first good run", 7, () -> kinds.run(0, nil, 0));
        due(expect, "the first good run", kinds, 7);
    }

    /** "the latest run that threw nothing": the others, which made pairs of their own, are passed over. */
    private static void latestRunThatThrewNothing(Expect expect) {
        Maker maker = new Maker();
        SuccessKinds kinds = maker.kinds;
        int x = maker.variable(0);
        int one = maker.number(1);
        int two = maker.number(2);
        kinds.define(0, x);
        kinds.define(1, maker.sum(x, one));
        kinds.define(2, maker.pair(maker.call(2, maker.pair(x, x)), x));
        int first = maker.pair(one, maker.pair(two, one));
        int second = maker.pair(maker.pair(two, two), two);
        kinds.run(0, first, 0);
        due(expect, "the first run", kinds, 8, 1, 8, 2, 1);
        expect.throwing("it fails", Expect.UNSUPPORTED, () -> kinds.run(1, second, 0));
        due(expect, "behind one that failed", kinds, 8, 1, 8, 2, 1);
        expect.throwing("it is cut off", Expect.STATE, () -> kinds.run(2, second, 0));
        due(expect, "behind one that was cut off", kinds, 8, 1, 8, 2, 1);
        expect.throwing("it is refused", Expect.ARGUMENT, () -> kinds.run(3, second, -1));
        due(expect, "behind one that was refused", kinds, 8, 1, 8, 2, 1);
        kinds.define(0, two);
        kinds.may(0, 0);
        kinds.hopeless(0);
        due(expect, "behind other calls", kinds, 8, 1, 8, 2, 1);
        kinds.define(0, x);
        kinds.run(0, second, 0);
        due(expect, "the latest run", kinds, 8, 8, 2, 2, 2);
        kinds.run(1, two, 0);
        due(expect, "the latest run, a number", kinds, 3);
    }

    private static void onePart(Expect expect) {
        Maker maker = new Maker();
        maker.kinds.define(0, maker.variable(0));
        int[] parts = {0, 1, 2, 3, -7, 0, 7, 7};
        for (int kind = 0; kind <= 7; kind++) {
            maker.kinds.run(0, maker.ofKind(kind), 0);
            due(expect, "kind " + kind, maker.kinds, parts[kind]);
        }
    }

    /** "when there is none such": behind the last part of 3, 5 and 7 of them. */
    private static void noSuchPart(Expect expect) {
        Maker maker = new Maker();
        SuccessKinds kinds = maker.kinds;
        kinds.define(0, maker.variable(0));
        int nil = maker.nil();
        int three = maker.pair(nil, nil);
        int left = maker.pair(three, nil);
        int right = maker.pair(nil, three);
        kinds.run(0, three, 0);
        due(expect, "3 parts", kinds, 8, 7, 7);
        kinds.run(0, left, 0);
        due(expect, "5 parts, to the left", kinds, 8, 8, 7, 7, 7);
        kinds.run(0, right, 0);
        due(expect, "5 parts, to the right", kinds, 8, 7, 8, 7, 7);
        kinds.run(0, maker.pair(three, three), 0);
        due(expect, "7 parts", kinds, 8, 8, 7, 7, 8, 7, 7);
    }

    /** "or i is above 59": values of 57, 59, 61, 63 and 81 parts, which are lists of 28 to 40 numbers. */
    private static void aboveFiftyNine(Expect expect) {
        for (int length : new int[] {28, 29, 30, 31, 40}) {
            Maker maker = new Maker();
            SuccessKinds kinds = maker.kinds;
            // Function 1 puts 1 to 5 before a list, function 2 some of them, function 0 twenty and those.
            kinds.define(1, before(maker, 5));
            kinds.define(2, before(maker, length % 5));
            kinds.define(0, maker.call(2, fives(maker, maker.variable(0), 4)));
            int argument = fives(maker, maker.nil(), length / 5 - 4);
            expect.is("list of " + length, 8, () -> kinds.run(0, argument, 0));
            due(expect, "list of " + length, kinds, partsOfList(length));
        }
    }

    /** The last numbers up to 5, before variable 0. */
    private static int before(Maker maker, int length) {
        int list = maker.variable(0);
        for (int number = 5; number > 5 - length; number--) {
            list = maker.pair(maker.number(number), list);
        }
        return list;
    }

    private static int fives(Maker maker, int list, int times) {
        return times == 0 ? list : fives(maker, maker.call(1, list), times - 1);
    }

    /** Pair, number, pair, number, .., and nil at the end, which is left out if it is above 59. */
    private static int[] partsOfList(int length) {
        int[] parts = new int[Math.min(60, 2 * length + 1)];
        for (int i = 0; i < parts.length; i++) {
            int number = (i / 2 + 5 - length % 5) % 5 + 1;
            parts[i] = i == 2 * length ? 7 : i % 2 == 0 ? 8 : number;
        }
        return parts;
    }

    /** "its kind, or the number itself for a number": numbers that look like kinds, and the farthest. */
    private static void kindsAndNumbers(Expect expect) {
        Maker maker = new Maker();
        SuccessKinds kinds = maker.kinds;
        kinds.define(3, maker.pair(maker.variable(0), maker.variable(1)));
        int[] numbers = {Integer.MIN_VALUE, -1, 0, 1, 4, 7, 8, 9, Integer.MAX_VALUE};
        for (int number : numbers) {
            kinds.run(3, maker.number(number), maker.atom(3));
            due(expect, "number " + number, kinds, 8, number, 3);
        }
        kinds.run(3, maker.atom(0), maker.nil());
        due(expect, "atom 0 and nil", kinds, 8, 0, 7);
    }

    private static void fewerPartsThanBefore(Expect expect) {
        Maker maker = new Maker();
        SuccessKinds kinds = maker.kinds;
        Sized sized = new Sized(maker);
        kinds.define(0, maker.variable(0));
        kinds.run(0, sized.ofPairs(29), 0);
        expect.is("part(58) of 59", 7, () -> kinds.part(58));
        expect.throwing("part(59) of 59", Expect.INDEX, () -> kinds.part(59));
        kinds.run(0, sized.ofPairs(1), 0);
        due(expect, "3 parts", kinds, 8, 7, 7);
        kinds.run(0, sized.ofPairs(0), 0);
        due(expect, "1 part", kinds, 7);
        kinds.run(0, sized.ofPairs(2), 0);
        due(expect, "5 parts", kinds, 8, 7, 8, 7, 7);
    }
}
