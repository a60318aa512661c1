/** Edges of values: numbers that wrap, the kinds 4, 5 and 6 at and beside 0, and the first and last atom. */
public final class ValueEdgesTest {
    private static final int LEAST = Integer.MIN_VALUE;
    private static final int GREATEST = Integer.MAX_VALUE;

    public static void main(String[] args) {
        Expect expect = new Expect();
        sumsWrap(expect);
        differencesWrap(expect);
        wrappedNumbersAreTheSame(expect);
        kindsBesideZero(expect);
        casesBesideZero(expect);
        knownKindsBesideZero(expect);
        firstAndLastAtom(expect);
        expect.finish();
    }

    /** "numbers (ints; sums wrap)": left, right, the sum and its kind. */
    private static void sumsWrap(Expect expect) {
        int[][] sums = {
            {GREATEST, 0, GREATEST, 6}, {GREATEST, 1, LEAST, 4}, {1, GREATEST, LEAST, 4},
            {GREATEST, 2, LEAST + 1, 4}, {GREATEST, -1, GREATEST - 1, 6}, {GREATEST, GREATEST, -2, 4},
            {LEAST, 0, LEAST, 4}, {LEAST, -1, GREATEST, 6}, {-1, LEAST, GREATEST, 6},
            {LEAST, 1, LEAST + 1, 4}, {LEAST, LEAST, 0, 5}, {LEAST, GREATEST, -1, 4},
            {LEAST + 1, GREATEST, 0, 5}, {LEAST + 1, LEAST, 1, 6}, {1 << 30, 1 << 30, LEAST, 4},
            {(1 << 30) - 1, 1 << 30, GREATEST, 6}, {-1, 1, 0, 5}, {-1, 0, -1, 4}, {0, 1, 1, 6}, {0, 0, 0, 5}};
        for (int[] row : sums) {
            calculated(expect, "+", 4, row);
        }
    }

    private static void differencesWrap(Expect expect) {
        int[][] differences = {
            {LEAST, 0, LEAST, 4}, {LEAST, 1, GREATEST, 6}, {LEAST, 2, GREATEST - 1, 6},
            {LEAST, -1, LEAST + 1, 4}, {LEAST, LEAST, 0, 5}, {LEAST, GREATEST, 1, 6},
            {GREATEST, 0, GREATEST, 6}, {GREATEST, -1, LEAST, 4}, {GREATEST, 1, GREATEST - 1, 6},
            {GREATEST, GREATEST, 0, 5}, {GREATEST, LEAST, -1, 4}, {0, LEAST, LEAST, 4},
            {0, LEAST + 1, GREATEST, 6}, {0, GREATEST, LEAST + 1, 4}, {-1, GREATEST, LEAST, 4},
            {-2, GREATEST, GREATEST, 6}, {-1, LEAST, GREATEST, 6}, {0, 1, -1, 4}, {0, -1, 1, 6}, {1, 1, 0, 5}};
        for (int[] row : differences) {
            calculated(expect, "-", 5, row);
        }
    }

    private static void calculated(Expect expect, String sign, int sort, int[] row) {
        Maker maker = new Maker();
        SuccessKinds kinds = maker.kinds;
        int body = kinds.make(sort, maker.variable(0), maker.variable(1), 0, 0);
        kinds.define(3, body);
        int left = maker.number(row[0]);
        int right = maker.number(row[1]);
        String what = row[0] + " " + sign + " " + row[1];
        expect.is(what, row[3], () -> kinds.run(3, left, right));
        expect.is(what + ": part(0)", row[2], () -> kinds.part(0));
        expect.throwing(what + ": part(1)", Expect.INDEX, () -> kinds.part(1));
    }

    private static void wrappedNumbersAreTheSame(Expect expect) {
        Maker maker = new Maker();
        SuccessKinds kinds = maker.kinds;
        int least = maker.number(LEAST);
        int one = maker.number(1);
        int wrapped = maker.sum(maker.number(GREATEST), one);
        kinds.define(3, maker.same(maker.variable(0), maker.variable(1)));
        expect.is("the wrapped sum is the least number", 1, () -> kinds.run(3, wrapped, least));
        expect.is("and not the greatest", 0, () -> kinds.run(3, wrapped, maker.number(GREATEST)));
        int back = maker.difference(wrapped, one);
        expect.is("back again", 1, () -> kinds.run(3, back, maker.number(GREATEST)));
        expect.is("0 and -0", 1, () -> kinds.run(3, maker.number(0), maker.difference(one, one)));
        expect.is("1 and -1", 0, () -> kinds.run(3, one, maker.number(-1)));
    }

    private static final int[][] BESIDE_ZERO = {
        {LEAST, 4}, {LEAST + 1, 4}, {-2, 4}, {-1, 4}, {0, 5}, {1, 6}, {2, 6}, {GREATEST - 1, 6}, {GREATEST, 6}};

    /** "4 a number below 0, 5 the number 0, 6 a number above 0": of what a run gives. */
    private static void kindsBesideZero(Expect expect) {
        Maker maker = new Maker();
        maker.kinds.define(0, maker.variable(0));
        for (int[] row : BESIDE_ZERO) {
            int number = maker.number(row[0]);
            expect.is("kind of " + row[0], row[1], () -> maker.kinds.run(0, number, 0));
            expect.is(row[0] + " itself", row[0], () -> maker.kinds.part(0));
        }
    }

    /** A CASE of a number: each of the three kinds, and all but it. */
    private static void casesBesideZero(Expect expect) {
        for (int[] row : BESIDE_ZERO) {
            Maker maker = new Maker();
            int number = maker.number(row[0]);
            int yes = maker.atom(1);
            int no = maker.atom(0);
            for (int kind = 0; kind < 9; kind++) {
                int due = kind == row[1] ? 1 : 0;
                maker.kinds.define(0, maker.caseOf(number, 1 << kind, yes, no));
                expect.is(row[0] + " in a set of " + kind, due, () -> maker.kinds.run(0, number, 0));
                maker.kinds.define(0, maker.caseOf(number, 511 - (1 << kind), no, yes));
                expect.is(row[0] + " in a set of all but " + kind, due, () -> maker.kinds.run(0, number, 0));
            }
        }
    }

    /** "ATOM, NUMBER, NIL: their kind": of numbers at and beside 0. */
    private static void knownKindsBesideZero(Expect expect) {
        Maker maker = new Maker();
        for (int[] row : BESIDE_ZERO) {
            maker.kinds.define(5, maker.number(row[0]));
            expect.is("gives of " + row[0], 1 << row[1], () -> maker.kinds.gives(5));
            expect.is("may of " + row[0], 511, () -> maker.kinds.may(5, 1));
        }
    }

    /** "atoms (0 .. 3)": atom 0 is a value like all others, and not the number 0. */
    private static void firstAndLastAtom(Expect expect) {
        for (int atom : new int[] {0, 3}) {
            Maker maker = new Maker();
            SuccessKinds kinds = maker.kinds;
            int value = maker.atom(atom);
            int x = maker.variable(0);
            int y = maker.variable(1);
            int one = maker.number(1);
            kinds.define(3, maker.pair(x, y));
            expect.is("a pair of atom " + atom, 8, () -> kinds.run(3, value, value));
            expect.is("its first value", atom, () -> kinds.part(1));
            expect.is("its second value", atom, () -> kinds.part(2));
            kinds.define(3, maker.let(2, x, y));
            expect.is("let be atom " + atom, 6, () -> kinds.run(3, value, one));
            expect.is("let in atom " + atom, atom, () -> kinds.run(3, one, value));
            kinds.define(3, maker.attempt(x, y));
            expect.is("try atom " + atom, atom, () -> kinds.run(3, value, one));
            kinds.define(3, maker.same(x, y));
            expect.is("atom " + atom + " and itself", 1, () -> kinds.run(3, value, value));
            expect.is("atom " + atom + " and its number", 0, () -> kinds.run(3, value, maker.number(atom)));
            kinds.define(3, maker.caseOf(x, 1 << atom, y, x));
            expect.is("case of atom " + atom, 6, () -> kinds.run(3, value, one));
            for (int failing : new int[] {maker.head(x), maker.tail(x), maker.sum(x, y), maker.difference(y, x)}) {
                kinds.define(3, failing);
                expect.throwing("atom " + atom + " is neither pair nor number", Expect.UNSUPPORTED,
                        () -> kinds.run(3, value, one));
            }
        }
    }
}
