/** Promises 4 and 5: may and gives. */
public final class KnowledgeTest {
    private static final int BOTH_ANSWERS = 3;

    public static void main(String[] args) {
        Expect expect = new Expect();
        plainBodies(expect);
        sumsAndDifferences(expect);
        pairsAndTheirParts(expect);
        cases(expect);
        lets(expect);
        triesAndSame(expect);
        calls(expect);
        leastSets(expect);
        longChain(expect);
        wrongArguments(expect);
        expect.finish();
    }

    /** Defines function 0, and compares MAY(0, 0) and GIVES(0). */
    private static void one(Expect expect, String what, Maker maker, int body, int may, int gives) {
        maker.kinds.define(0, body);
        expect.is(what + ": may(0, 0)", may, () -> maker.kinds.may(0, 0));
        expect.is(what + ": gives(0)", gives, () -> maker.kinds.gives(0));
    }

    /** Defines function 3, and compares MAY(3, 0), MAY(3, 1) and GIVES(3). */
    private static void two(Expect expect, String what, Maker maker, int body, int first, int second, int gives) {
        maker.kinds.define(3, body);
        expect.is(what + ": may(3, 0)", first, () -> maker.kinds.may(3, 0));
        expect.is(what + ": may(3, 1)", second, () -> maker.kinds.may(3, 1));
        expect.is(what + ": gives(3)", gives, () -> maker.kinds.gives(3));
    }

    private static void plainBodies(Expect expect) {
        Maker maker = new Maker();
        for (int kind = 0; kind < 9; kind++) {
            one(expect, "kind " + kind, maker, maker.ofKind(kind), Maker.ALL, 1 << kind);
        }
        one(expect, "parameter", maker, maker.variable(0), Maker.ALL, Maker.ALL);
        one(expect, "variable 1 of one parameter", maker, maker.variable(1), 0, 0);
        one(expect, "variable 2", maker, maker.variable(2), 0, 0);
        one(expect, "fail", maker, maker.fail(), 0, 0);
        two(expect, "variable 1 of two", maker, maker.variable(1), Maker.ALL, Maker.ALL, Maker.ALL);
        two(expect, "variable 3", maker, maker.variable(3), 0, 0, 0);
        one(expect, "least number", maker, maker.number(Integer.MIN_VALUE), Maker.ALL, Maker.BELOW);
        one(expect, "greatest number", maker, maker.number(Integer.MAX_VALUE), Maker.ALL, Maker.ABOVE);
    }

    private static void sumsAndDifferences(Expect expect) {
        int[][] sums = {
            {Maker.NUMBERS, Maker.BELOW, Maker.NUMBERS},
            {Maker.BELOW, Maker.ZERO, Maker.ABOVE},
            {Maker.NUMBERS, Maker.ABOVE, Maker.NUMBERS}};
        int[][] differences = {
            {Maker.NUMBERS, Maker.BELOW, Maker.NUMBERS},
            {Maker.NUMBERS, Maker.ZERO, Maker.NUMBERS},
            {Maker.NUMBERS, Maker.ABOVE, Maker.NUMBERS}};
        for (int left = 0; left < 3; left++) {
            for (int right = 0; right < 3; right++) {
                Maker maker = new Maker();
                int one = maker.ofKind(left + 4);
                int other = maker.ofKind(right + 4);
                one(expect, "sum", maker, maker.sum(one, other), Maker.ALL, sums[left][right]);
                one(expect, "difference", maker, maker.difference(one, other), Maker.ALL, differences[left][right]);
            }
        }
        Maker maker = new Maker();
        int x = maker.variable(0);
        int zero = maker.number(0);
        int nil = maker.nil();
        one(expect, "x + x", maker, maker.sum(x, x), Maker.NUMBERS, Maker.NUMBERS);
        one(expect, "x + 0", maker, maker.sum(x, zero), Maker.NUMBERS, Maker.NUMBERS);
        one(expect, "x + nil", maker, maker.sum(x, nil), 0, 0);
        one(expect, "nil - x", maker, maker.difference(nil, x), 0, 0);
        int narrow = maker.caseOf(x, Maker.ZERO + Maker.ABOVE + Maker.NIL, maker.sum(zero, x), zero);
        one(expect, "0 + x, x not below", maker, narrow, Maker.ALL - Maker.NIL, Maker.ZERO + Maker.ABOVE);
    }

    private static void pairsAndTheirParts(Expect expect) {
        Maker maker = new Maker();
        int x = maker.variable(0);
        int fail = maker.fail();
        int nil = maker.nil();
        int pair = maker.pair(x, nil);
        one(expect, "pair", maker, pair, Maker.ALL, Maker.PAIR);
        one(expect, "pair of fail and x", maker, maker.pair(fail, x), 0, 0);
        one(expect, "pair of x and fail", maker, maker.pair(x, fail), 0, 0);
        one(expect, "head of x", maker, maker.head(x), Maker.PAIR, Maker.ALL);
        one(expect, "tail of x", maker, maker.tail(x), Maker.PAIR, Maker.ALL);
        one(expect, "tail of a pair", maker, maker.tail(pair), Maker.ALL, Maker.ALL);
        one(expect, "head of nil", maker, maker.head(nil), 0, 0);
        one(expect, "head of fail", maker, maker.head(fail), 0, 0);
    }

    private static void cases(Expect expect) {
        Maker maker = new Maker();
        int x = maker.variable(0);
        int y = maker.variable(1);
        int nil = maker.nil();
        int zero = maker.number(0);
        int fail = maker.fail();
        one(expect, "x in its case", maker, maker.caseOf(x, 6, x, nil), Maker.ALL, 6 + Maker.NIL);
        one(expect, "x outside of its case", maker, maker.caseOf(x, 6, nil, x), Maker.ALL, Maker.ALL - 6);
        one(expect, "never in", maker, maker.caseOf(x, 0, nil, zero), Maker.ALL, Maker.ZERO);
        one(expect, "always in", maker, maker.caseOf(x, 511, nil, zero), Maker.ALL, Maker.NIL);
        one(expect, "fails in", maker, maker.caseOf(x, 6, fail, nil), Maker.ALL - 6, Maker.NIL);
        one(expect, "fails outside", maker, maker.caseOf(x, 6, nil, fail), 6, Maker.NIL);
        one(expect, "case of fail", maker, maker.caseOf(fail, 511, nil, nil), 0, 0);
        one(expect, "case of nothing given", maker, maker.caseOf(y, 511, nil, nil), 0, 0);
        int inner = maker.caseOf(x, 12, x, nil);
        one(expect, "case in case", maker, maker.caseOf(x, 6, inner, zero), Maker.ALL, 4 + Maker.NIL + Maker.ZERO);
        int twice = maker.pair(maker.caseOf(x, 6, x, fail), maker.caseOf(x, 8, x, fail));
        one(expect, "no longer narrow behind a case", maker, twice, 0, Maker.PAIR);
        int sum = maker.sum(x, zero);
        one(expect, "case of no variable", maker, maker.caseOf(sum, Maker.ABOVE, x, nil),
                Maker.NUMBERS, Maker.ALL);
        two(expect, "the other one of any kind", maker, maker.caseOf(x, 1, y, fail), 1, Maker.ALL, Maker.ALL);
        two(expect, "case of y", maker, maker.caseOf(y, 1, x, fail), Maker.ALL, 1, Maker.ALL);
        int both = maker.caseOf(x, 1, maker.caseOf(y, 2, y, fail), nil);
        two(expect, "case of both", maker, both, Maker.ALL, Maker.ALL, 2 + Maker.NIL);
    }

    private static void lets(Expect expect) {
        Maker maker = new Maker();
        int x = maker.variable(0);
        int second = maker.variable(2);
        int third = maker.variable(3);
        int nil = maker.nil();
        int fail = maker.fail();
        int zero = maker.number(0);
        one(expect, "let", maker, maker.let(2, nil, second), Maker.ALL, Maker.NIL);
        one(expect, "let of the other", maker, maker.let(3, nil, second), 0, 0);
        one(expect, "let be fail", maker, maker.let(2, fail, nil), 0, 0);
        one(expect, "let in fail", maker, maker.let(2, nil, fail), 0, 0);
        one(expect, "let not within itself", maker, maker.let(2, second, nil), 0, 0);
        one(expect, "only within", maker, maker.pair(maker.let(2, nil, second), second), 0, 0);
        int inner = maker.let(2, zero, maker.let(3, second, third));
        one(expect, "let in let", maker, maker.let(2, nil, inner), Maker.ALL, Maker.ZERO);
        int narrow = maker.let(3, x, maker.caseOf(third, 6, third, nil));
        one(expect, "case of a let's variable", maker, narrow, Maker.ALL, 6 + Maker.NIL);
        int wide = maker.let(3, x, maker.caseOf(third, 6, x, nil));
        one(expect, "x is as it was", maker, wide, Maker.ALL, Maker.ALL);
    }

    private static void triesAndSame(Expect expect) {
        Maker maker = new Maker();
        int x = maker.variable(0);
        int nil = maker.nil();
        int zero = maker.number(0);
        int fail = maker.fail();
        one(expect, "try", maker, maker.attempt(nil, zero), Maker.ALL, Maker.NIL + Maker.ZERO);
        one(expect, "try fail", maker, maker.attempt(fail, zero), Maker.ALL, Maker.ZERO);
        one(expect, "try else fail", maker, maker.attempt(zero, fail), Maker.ALL, Maker.ZERO);
        one(expect, "try twice", maker, maker.attempt(fail, fail), 0, 0);
        one(expect, "same", maker, maker.same(x, nil), Maker.ALL, BOTH_ANSWERS);
        one(expect, "same of fail", maker, maker.same(fail, x), 0, 0);
        one(expect, "same and fail", maker, maker.same(x, fail), 0, 0);
    }

    private static void calls(Expect expect) {
        Maker maker = new Maker();
        SuccessKinds kinds = maker.kinds;
        int x = maker.variable(0);
        int y = maker.variable(1);
        int nil = maker.nil();
        int zero = maker.number(0);
        int fail = maker.fail();
        one(expect, "call without a body", maker, maker.call(1, x), 0, 0);
        kinds.define(3, maker.caseOf(x, 6, maker.caseOf(y, 12, nil, fail), fail));
        expect.is("may(3, 0)", 6, () -> kinds.may(3, 0));
        expect.is("may(3, 1)", 12, () -> kinds.may(3, 1));
        int first = maker.atom(1);
        int third = maker.atom(3);
        one(expect, "call that may succeed", maker, maker.call(3, first, third), Maker.ALL, Maker.NIL);
        one(expect, "first argument wrong", maker, maker.call(3, third, third), 0, 0);
        one(expect, "second argument wrong", maker, maker.call(3, first, first), 0, 0);
        one(expect, "both wrong", maker, maker.call(3, third, first), 0, 0);
        one(expect, "argument gives nothing", maker, maker.call(3, first, fail), 0, 0);
        one(expect, "argument x", maker, maker.call(3, x, x), 4, Maker.NIL);
        kinds.define(4, zero);
        one(expect, "argument not used gives nothing", maker, maker.call(4, fail, nil), 0, 0);
        one(expect, "arguments not used", maker, maker.call(4, nil, nil), Maker.ALL, Maker.ZERO);
    }

    /** Sets that would hold each other up, but that nothing begins, stay empty. */
    private static void leastSets(Expect expect) {
        Maker maker = new Maker();
        SuccessKinds kinds = maker.kinds;
        int x = maker.variable(0);
        int nil = maker.nil();
        one(expect, "only itself", maker, maker.call(0, x), 0, 0);
        kinds.define(1, maker.call(2, x));
        kinds.define(2, maker.call(1, x));
        expect.is("each other: gives(1)", 0, () -> kinds.gives(1));
        expect.is("each other: may(2, 0)", 0, () -> kinds.may(2, 0));
        kinds.define(2, maker.caseOf(x, Maker.NIL, nil, maker.call(1, x)));
        expect.is("with an end: gives(1)", Maker.NIL, () -> kinds.gives(1));
        expect.is("with an end: may(1, 0)", Maker.NIL, () -> kinds.may(1, 0));
        expect.is("with an end: may(2, 0)", Maker.NIL, () -> kinds.may(2, 0));
        int shorter = maker.caseOf(x, Maker.NIL, nil, maker.call(0, maker.tail(x)));
        one(expect, "down a list", maker, shorter, Maker.NIL + Maker.PAIR, Maker.NIL);
    }

    /** A kind a round: each call turns the kind into the next one, and only the last kind succeeds. */
    private static void longChain(Expect expect) {
        Maker maker = new Maker();
        SuccessKinds kinds = maker.kinds;
        int x = maker.variable(0);
        int[] calls = new int[4];
        for (int atom = 1; atom < 4; atom++) {
            calls[atom] = maker.call(1, maker.atom(atom));
        }
        int fail = maker.fail();
        int last = maker.caseOf(x, 8, x, fail);
        int lower = maker.caseOf(x, 4, calls[3], last);
        int low = maker.caseOf(x, 2, calls[2], lower);
        kinds.define(0, maker.caseOf(x, 1, calls[1], low));
        kinds.define(1, maker.call(2, x));
        kinds.define(2, maker.call(0, x));
        for (int function = 0; function < 3; function++) {
            int wanted = function;
            expect.is("chain: may(" + function + ", 0)", 15, () -> kinds.may(wanted, 0));
            expect.is("chain: gives(" + function + ")", 8, () -> kinds.gives(wanted));
        }
    }

    private static void wrongArguments(Expect expect) {
        Maker maker = new Maker();
        SuccessKinds kinds = maker.kinds;
        kinds.define(0, maker.nil());
        for (int wrong : new int[] {-1, 6, Integer.MAX_VALUE, Integer.MIN_VALUE}) {
            expect.throwing("may(" + wrong + ", 0)", Expect.ARGUMENT, () -> kinds.may(wrong, 0));
            expect.throwing("gives(" + wrong + ")", Expect.ARGUMENT, () -> kinds.gives(wrong));
        }
        for (int function = 0; function < 6; function++) {
            int wanted = function;
            int parameters = function < 3 ? 1 : 2;
            for (int wrong : new int[] {-1, parameters, Integer.MAX_VALUE, Integer.MIN_VALUE}) {
                expect.throwing("may(" + function + ", " + wrong + ")", Expect.ARGUMENT, () -> kinds.may(wanted, wrong));
            }
        }
    }
}
