/** Edges of what is known: empty sets, every "nothing if ..", and each two number kinds. */
public final class KnownEdgesTest {
    private static final int[] NUMBER_KINDS = {4, 5, 6};

    /** What 4, 5 and 6 give with 4, 5 and 6, as sets. */
    private static final int[][] SUMS = {{112, 16, 112}, {16, 32, 64}, {112, 64, 112}};
    private static final int[][] DIFFERENCES = {{112, 16, 112}, {112, 32, 112}, {112, 64, 112}};

    public static void main(String[] args) {
        Expect expect = new Expect();
        emptyWithoutABody(expect);
        emptyForAVariableThatNothingWasGivenTo(expect);
        eachKindAlone(expect);
        pairAndSameOfNothing(expect);
        headAndTailOfNoPair(expect);
        eachTwoNumberKinds(expect);
        eachTwoSetsOfNumberKinds(expect);
        numbersAmongOtherKinds(expect);
        partsThatAreNoNumbers(expect);
        sidesOfACase(expect);
        narrowedSides(expect);
        callOfNothing(expect);
        callThatMaySucceed(expect);
        letOfNothing(expect);
        tryOfNothing(expect);
        leastSets(expect);
        longestWayRound(expect);
        expect.finish();
    }

    /** Defines function 3, and compares GIVES(3), MAY(3, 0) and MAY(3, 1). */
    private static void due(Expect expect, String what, Maker maker, int body, int gives, int first, int second) {
        maker.kinds.define(3, body);
        expect.is(what + ": gives", gives, () -> maker.kinds.gives(3));
        expect.is(what + ": may 0", first, () -> maker.kinds.may(3, 0));
        expect.is(what + ": may 1", second, () -> maker.kinds.may(3, 1));
    }

    private static void nothing(Expect expect, String what, Maker maker, int body) {
        due(expect, what, maker, body, 0, 0, 0);
    }

    private static void always(Expect expect, String what, Maker maker, int body, int gives) {
        due(expect, what, maker, body, gives, 511, 511);
    }

    /** "all empty without a body": before it has one, and also when all others have one that calls it. */
    private static void emptyWithoutABody(Expect expect) {
        for (int function = 0; function <= 5; function++) {
            int f = function;
            Maker maker = new Maker();
            SuccessKinds kinds = maker.kinds;
            int nil = maker.nil();
            int call = maker.call(f, nil, nil);
            emptyFunction(expect, kinds, f);
            for (int other = 0; other <= 5; other++) {
                if (other != f) {
                    kinds.define(other, call);
                }
            }
            for (int any = 0; any <= 5; any++) {
                emptyFunction(expect, kinds, any);
            }
            kinds.define(f, nil);
            for (int any = 0; any <= 5; any++) {
                int wanted = any;
                expect.is("gives of " + any + " when " + f + " has a body", 128, () -> kinds.gives(wanted));
                expect.is("may of " + any + " when " + f + " has a body", 511, () -> kinds.may(wanted, 0));
            }
        }
    }

    private static void emptyFunction(Expect expect, SuccessKinds kinds, int function) {
        expect.is("gives of " + function, 0, () -> kinds.gives(function));
        expect.is("may of " + function, 0, () -> kinds.may(function, 0));
        if (function >= 3) {
            expect.is("may 1 of " + function, 0, () -> kinds.may(function, 1));
        }
    }

    /** "the empty set for one that nothing was given to": by itself and as a part of everything. */
    private static void emptyForAVariableThatNothingWasGivenTo(Expect expect) {
        Maker maker = new Maker();
        int nil = maker.nil();
        int empty = maker.variable(2);
        int given = maker.variable(1);
        always(expect, "a given variable", maker, given, 511);
        nothing(expect, "the variable", maker, empty);
        nothing(expect, "a pair of it", maker, maker.pair(empty, nil));
        nothing(expect, "a head of it", maker, maker.head(empty));
        nothing(expect, "same of it", maker, maker.same(nil, empty));
        nothing(expect, "a case of it, in all kinds", maker, maker.caseOf(empty, 511, nil, nil));
        nothing(expect, "a case of it, in none", maker, maker.caseOf(empty, 0, nil, nil));
        nothing(expect, "a let of it", maker, maker.let(3, empty, nil));
        always(expect, "a try of it", maker, maker.attempt(empty, nil), 128);
        nothing(expect, "a let's other variable", maker, maker.let(3, nil, empty));
        always(expect, "a let's own variable", maker, maker.let(2, nil, empty), 128);
        maker.kinds.define(0, given);
        expect.is("variable 1 of one parameter", 0, () -> maker.kinds.gives(0));
        expect.is("may with variable 1 of one parameter", 0, () -> maker.kinds.may(0, 0));
    }

    /** "each kind k for which the body gives something": the first, the last, and all between. */
    private static void eachKindAlone(Expect expect) {
        for (int kind = 0; kind <= 8; kind++) {
            Maker maker = new Maker();
            int set = 1 << kind;
            int fail = maker.fail();
            int nil = maker.nil();
            int x = maker.variable(0);
            int y = maker.variable(1);
            due(expect, "x of " + kind, maker, maker.caseOf(x, set, nil, fail), 128, set, 511);
            due(expect, "x not of " + kind, maker, maker.caseOf(x, set, fail, nil), 128, 511 - set, 511);
            due(expect, "y of " + kind, maker, maker.caseOf(y, set, y, fail), set, 511, set);
            due(expect, "y not of " + kind, maker, maker.caseOf(y, set, fail, y), 511 - set, 511, 511 - set);
            always(expect, "a value of " + kind, maker, maker.ofKind(kind), set);
        }
    }

    /** "PAIR: pair, or nothing if one of its parts gives nothing", and SAME */
    private static void pairAndSameOfNothing(Expect expect) {
        Maker maker = new Maker();
        int nil = maker.nil();
        int fail = maker.fail();
        int x = maker.variable(0);
        always(expect, "pair", maker, maker.pair(nil, x), 256);
        nothing(expect, "pair of nothing", maker, maker.pair(fail, x));
        nothing(expect, "pair and nothing", maker, maker.pair(x, fail));
        nothing(expect, "pair of nothings", maker, maker.pair(fail, fail));
        always(expect, "same", maker, maker.same(nil, x), 3);
        always(expect, "same of what can't be the same", maker, maker.same(nil, maker.number(1)), 3);
        nothing(expect, "same of nothing", maker, maker.same(fail, x));
        nothing(expect, "same and nothing", maker, maker.same(x, fail));
        nothing(expect, "same of nothings", maker, maker.same(fail, fail));
    }

    /** "HEAD, TAIL: all kinds if its part may be a pair, else nothing." */
    private static void headAndTailOfNoPair(Expect expect) {
        Maker maker = new Maker();
        int x = maker.variable(0);
        int fail = maker.fail();
        int atMostNil = maker.caseOf(x, 255, x, fail);
        int nilOrPair = maker.caseOf(x, 384, x, fail);
        int onlyPair = maker.caseOf(x, 256, x, fail);
        for (int sort = 7; sort <= 8; sort++) {
            nothing(expect, "sort " + sort + " of kinds 0 to 7", maker, maker.kinds.make(sort, atMostNil, 0, 0, 0));
            due(expect, "sort " + sort + " of kinds 7 and 8", maker, maker.kinds.make(sort, nilOrPair, 0, 0, 0),
                    511, 256, 511);
            due(expect, "sort " + sort + " of pairs", maker, maker.kinds.make(sort, onlyPair, 0, 0, 0), 511, 256, 511);
            nothing(expect, "sort " + sort + " of nothing", maker, maker.kinds.make(sort, fail, 0, 0, 0));
            always(expect, "sort " + sort + " of a pair", maker,
                    maker.kinds.make(sort, maker.pair(x, x), 0, 0, 0), 511);
        }
    }

    /** "for each two of them, 5 and 5 give 5; .." */
    private static void eachTwoNumberKinds(Expect expect) {
        for (int left : NUMBER_KINDS) {
            for (int right : NUMBER_KINDS) {
                Maker maker = new Maker();
                int one = maker.ofKind(left);
                int other = maker.ofKind(right);
                String what = left + " and " + right;
                always(expect, "sum of " + what, maker, maker.sum(one, other), SUMS[left - 4][right - 4]);
                always(expect, "difference of " + what, maker, maker.difference(one, other),
                        DIFFERENCES[left - 4][right - 4]);
            }
        }
    }

    private static int ofSets(int[][] table, int left, int right) {
        int result = 0;
        for (int one : NUMBER_KINDS) {
            for (int other : NUMBER_KINDS) {
                if ((left >> one & 1) == 1 && (right >> other & 1) == 1) {
                    result |= table[one - 4][other - 4];
                }
            }
        }
        return result;
    }

    /** All sets of number kinds, the empty one too, made by a CASE of each parameter. */
    private static void eachTwoSetsOfNumberKinds(Expect expect) {
        for (int left = 0; left <= 7; left++) {
            for (int right = 0; right <= 7; right++) {
                twoSets(expect, left << 4, right << 4, left << 4, right << 4);
            }
        }
    }

    /** "of the number kinds that its parts may be": what else they may be changes nothing. */
    private static void numbersAmongOtherKinds(Expect expect) {
        for (int left = 0; left <= 7; left++) {
            for (int right = 0; right <= 7; right++) {
                twoSets(expect, (left << 4) + 1 + 8, (right << 4) + 128 + 256, left << 4, right << 4);
            }
        }
    }

    private static void twoSets(Expect expect, int left, int right, int leftNumbers, int rightNumbers) {
        Maker maker = new Maker();
        int fail = maker.fail();
        int x = maker.variable(0);
        int y = maker.variable(1);
        int one = maker.caseOf(x, left, x, fail);
        int other = maker.caseOf(y, right, y, fail);
        boolean none = leftNumbers == 0 || rightNumbers == 0;
        int firsts = none ? 0 : leftNumbers;
        int seconds = none ? 0 : rightNumbers;
        String what = left + " and " + right;
        due(expect, "sum of sets " + what, maker, maker.sum(one, other),
                ofSets(SUMS, leftNumbers, rightNumbers), firsts, seconds);
        due(expect, "difference of sets " + what, maker, maker.difference(one, other),
                ofSets(DIFFERENCES, leftNumbers, rightNumbers), firsts, seconds);
    }

    /** "nothing if one may be none" */
    private static void partsThatAreNoNumbers(Expect expect) {
        for (int kind : new int[] {0, 1, 2, 3, 7, 8}) {
            Maker maker = new Maker();
            int other = maker.ofKind(kind);
            int number = maker.number(kind);
            for (int sort = 4; sort <= 5; sort++) {
                nothing(expect, "sort " + sort + " of kind " + kind, maker, maker.kinds.make(sort, other, number, 0, 0));
                nothing(expect, "sort " + sort + " and kind " + kind, maker, maker.kinds.make(sort, number, other, 0, 0));
                nothing(expect, "sort " + sort + " twice " + kind, maker, maker.kinds.make(sort, other, other, 0, 0));
            }
        }
        Maker maker = new Maker();
        int fail = maker.fail();
        int x = maker.variable(0);
        nothing(expect, "sum of nothing", maker, maker.sum(fail, x));
        nothing(expect, "difference and nothing", maker, maker.difference(x, fail));
        due(expect, "sum of anything", maker, maker.sum(x, maker.variable(1)), 112, 112, 112);
    }

    /** "CASE: what c gives if the part may be of a kind in the set, and what d gives if ..": each side alone. */
    private static void sidesOfACase(Expect expect) {
        for (int kind = 0; kind <= 8; kind++) {
            Maker maker = new Maker();
            int value = maker.ofKind(kind);
            int nil = maker.nil();
            int zero = maker.number(0);
            int set = 1 << kind;
            always(expect, kind + " in its set", maker, maker.caseOf(value, set, nil, zero), 128);
            always(expect, kind + " in all sets", maker, maker.caseOf(value, 511, nil, zero), 128);
            always(expect, kind + " in all others", maker, maker.caseOf(value, 511 - set, nil, zero), 32);
            always(expect, kind + " in none", maker, maker.caseOf(value, 0, nil, zero), 32);
            int either = maker.attempt(value, zero);
            int both = kind == 5 ? 128 : 128 + 32;
            always(expect, kind + " or 0", maker, maker.caseOf(either, set, nil, zero), both);
        }
        Maker maker = new Maker();
        int fail = maker.fail();
        int nil = maker.nil();
        nothing(expect, "case of nothing in all", maker, maker.caseOf(fail, 511, nil, nil));
        nothing(expect, "case of nothing in none", maker, maker.caseOf(fail, 0, nil, nil));
    }

    /** "within c its set is only what is in the set b, and within d what isn't", and behind it as before. */
    private static void narrowedSides(Expect expect) {
        for (int set : new int[] {0, 1, 256, 255, 510, 511}) {
            Maker maker = new Maker();
            int x = maker.variable(0);
            int y = maker.variable(1);
            int fail = maker.fail();
            due(expect, "c of " + set, maker, maker.caseOf(x, set, x, fail), set, set, set == 0 ? 0 : 511);
            due(expect, "d of " + set, maker, maker.caseOf(x, set, fail, x), 511 - set, 511 - set, set == 511 ? 0 : 511);
            always(expect, "either of " + set, maker, maker.caseOf(x, set, x, x), 511);
            due(expect, "the other one in " + set, maker, maker.caseOf(x, set, y, fail),
                    set == 0 ? 0 : 511, set, set == 0 ? 0 : 511);
            int behind = maker.let(2, maker.caseOf(x, set, x, x), x);
            always(expect, "behind " + set, maker, behind, 511);
            int looked = maker.caseOf(maker.head(maker.pair(x, x)), set, x, fail);
            due(expect, "no variable in " + set, maker, looked, set == 0 ? 0 : 511, set == 0 ? 0 : 511, set == 0 ? 0 : 511);
            int bound = maker.let(2, x, maker.caseOf(maker.variable(2), set, maker.variable(2), fail));
            due(expect, "a let's variable in " + set, maker, bound, set, set, set == 0 ? 0 : 511);
        }
    }

    /** Function 4 takes atoms 1 and 2 first and atoms 2 and 3 second, and gives nil. */
    private static Maker withPickyFunction() {
        Maker maker = new Maker();
        int fail = maker.fail();
        int second = maker.caseOf(maker.variable(1), 4 + 8, maker.nil(), fail);
        maker.kinds.define(4, maker.caseOf(maker.variable(0), 2 + 4, second, fail));
        return maker;
    }

    /** "CALL: nothing if for some argument i nothing that it gives is in MAY(f, i)" */
    private static void callOfNothing(Expect expect) {
        Maker maker = withPickyFunction();
        int fail = maker.fail();
        int both = maker.atom(2);
        int first = maker.atom(1);
        int last = maker.atom(3);
        nothing(expect, "first argument not in may", maker, maker.call(4, last, both));
        nothing(expect, "second argument not in may", maker, maker.call(4, both, first));
        nothing(expect, "both arguments not in may", maker, maker.call(4, last, first));
        nothing(expect, "first argument gives nothing", maker, maker.call(4, fail, both));
        nothing(expect, "second argument gives nothing", maker, maker.call(4, both, fail));
        always(expect, "both arguments in may", maker, maker.call(4, first, last), 128);
        maker.kinds.define(0, maker.nil());
        always(expect, "one argument", maker, maker.call(0, both), 128);
        nothing(expect, "one argument that gives nothing, though it is not used", maker, maker.call(0, fail));
        nothing(expect, "no body", maker, maker.call(5, both, both));
    }

    /** "else GIVES(f)": one kind in common is enough for each argument, and need not be one for both. */
    private static void callThatMaySucceed(Expect expect) {
        Maker maker = withPickyFunction();
        int zero = maker.atom(0);
        int one = maker.atom(1);
        int three = maker.atom(3);
        int zeroOrOne = maker.attempt(zero, one);
        int zeroOrThree = maker.attempt(zero, three);
        always(expect, "one kind in common each", maker, maker.call(4, zeroOrOne, zeroOrThree), 128);
        nothing(expect, "none in common first", maker, maker.call(4, zeroOrThree, zeroOrThree));
        nothing(expect, "none in common second", maker, maker.call(4, zeroOrOne, zeroOrOne));
        due(expect, "parameters", maker, maker.call(4, maker.variable(0), maker.variable(1)), 128, 6, 12);
        due(expect, "parameters turned", maker, maker.call(4, maker.variable(1), maker.variable(0)), 128, 12, 6);
        int x = maker.variable(0);
        due(expect, "one parameter twice", maker, maker.call(4, x, x), 128, 4, 511);
    }

    /** "LET: nothing if b gives nothing, else what c gives with that for the variable." */
    private static void letOfNothing(Expect expect) {
        Maker maker = new Maker();
        int fail = maker.fail();
        int nil = maker.nil();
        int zero = maker.number(0);
        for (int variable = 2; variable <= 3; variable++) {
            nothing(expect, "let be nothing", maker, maker.let(variable, fail, nil));
            nothing(expect, "let in nothing", maker, maker.let(variable, nil, fail));
            always(expect, "let not used", maker, maker.let(variable, nil, zero), 32);
            always(expect, "let used", maker, maker.let(variable, nil, maker.variable(variable)), 128);
        }
    }

    /** "TRY: what a gives, and what b gives." */
    private static void tryOfNothing(Expect expect) {
        Maker maker = new Maker();
        int fail = maker.fail();
        int nil = maker.nil();
        int zero = maker.number(0);
        nothing(expect, "nothing, else nothing", maker, maker.attempt(fail, fail));
        always(expect, "nothing, else nil", maker, maker.attempt(fail, nil), 128);
        always(expect, "nil, else nothing", maker, maker.attempt(nil, fail), 128);
        always(expect, "nil, else 0", maker, maker.attempt(nil, zero), 128 + 32);
    }

    /** "they are the least ones": what only holds itself up stays empty, what has one way out doesn't. */
    private static void leastSets(Expect expect) {
        Maker maker = new Maker();
        int x = maker.variable(0);
        int y = maker.variable(1);
        int itself = maker.call(3, x, y);
        nothing(expect, "itself", maker, itself);
        nothing(expect, "itself or nothing", maker, maker.attempt(itself, maker.fail()));
        due(expect, "itself, or an end for one kind", maker, maker.caseOf(x, 256, maker.nil(), itself), 128, 256, 511);
        int turned = maker.call(3, y, x);
        int either = maker.caseOf(x, 256, maker.nil(), turned);
        due(expect, "itself turned, or an end for one kind", maker, either, 128, 511, 511);
        int down = maker.caseOf(x, 128, x, maker.call(3, maker.tail(x), y));
        due(expect, "down a list", maker, down, 128, 128 + 256, 511);
        maker.kinds.define(1, maker.call(3, x, x));
        nothing(expect, "itself through another", maker, maker.call(1, x));
        expect.is("and the other", 0, () -> maker.kinds.gives(1));
    }

    /**
     * Each function hands what it gets to the next one, the last one a value of the next kind to the
     * first one; only with nil or a pair there is an end. So all sets grow by one kind a way round.
     */
    private static void longestWayRound(Expect expect) {
        Maker maker = new Maker();
        SuccessKinds kinds = maker.kinds;
        int x = maker.variable(0);
        int nil = maker.nil();
        for (int function = 0; function < 5; function++) {
            kinds.define(function, maker.call(function + 1, x, nil));
        }
        int[] next = new int[8];
        for (int kind = 0; kind < 7; kind++) {
            next[kind] = maker.call(0, maker.ofKind(kind + 1));
        }
        next[7] = nil;
        for (int step = 1; step < 8; step *= 2) {
            for (int kind = 0; kind < 8; kind += 2 * step) {
                next[kind] = maker.caseOf(x, (1 << kind + step) - 1, next[kind], next[kind + step]);
            }
        }
        kinds.define(5, next[0]);
        for (int function = 0; function <= 5; function++) {
            int f = function;
            expect.is("a long way round: may(" + f + ", 0)", 511, () -> kinds.may(f, 0));
            expect.is("a long way round: gives(" + f + ")", 128, () -> kinds.gives(f));
        }
        kinds.define(5, maker.caseOf(x, 384, maker.fail(), next[0]));
        for (int function = 0; function <= 5; function++) {
            int f = function;
            expect.is("without an end: may(" + f + ", 0)", 0, () -> kinds.may(f, 0));
            expect.is("without an end: gives(" + f + ")", 0, () -> kinds.gives(f));
        }
    }
}
