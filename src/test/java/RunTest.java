/** Promises 8 and 10: run, and calls behind each run. */
public final class RunTest {
    public static void main(String[] args) {
        Expect expect = new Expect();
        everyKind(expect);
        numbers(expect);
        variablesHaveTheirScope(expect);
        pairsAndCases(expect);
        same(expect);
        failing(expect);
        order(expect);
        arguments(expect);
        callsCounted(expect);
        wrongArguments(expect);
        expect.finish();
    }

    /** Runs function 0 with a body and an argument, and compares the kind and the first part. */
    private static void gives(Expect expect, String what, Maker maker, int body, int x, int kind, int part) {
        maker.kinds.define(0, body);
        expect.is(what, kind, () -> maker.kinds.run(0, x, -1));
        expect.is(what + ": part(0)", part, () -> maker.kinds.part(0));
    }

    private static void fails(Expect expect, String what, Maker maker, int body, int x) {
        maker.kinds.define(0, body);
        expect.throwing(what, Expect.UNSUPPORTED, () -> maker.kinds.run(0, x, -1));
    }

    private static void everyKind(Expect expect) {
        Maker maker = new Maker();
        int x = maker.variable(0);
        int[] parts = {0, 1, 2, 3, -7, 0, 7, 7, 8};
        for (int kind = 0; kind < 9; kind++) {
            gives(expect, "kind " + kind, maker, x, maker.ofKind(kind), kind, parts[kind]);
        }
    }

    private static void numbers(Expect expect) {
        int least = Integer.MIN_VALUE;
        int greatest = Integer.MAX_VALUE;
        int[] some = {least, least + 1, -5, -1, 0, 1, 5, greatest};
        for (int one : some) {
            for (int other : some) {
                Maker maker = new Maker();
                int x = maker.variable(0);
                int y = maker.number(other);
                int argument = maker.number(one);
                int sum = one + other;
                int difference = one - other;
                gives(expect, one + " + " + other, maker, maker.sum(x, y), argument, kindOf(sum), sum);
                gives(expect, one + " - " + other, maker, maker.difference(x, y), argument, kindOf(difference), difference);
            }
        }
        Maker maker = new Maker();
        int one = maker.number(1);
        for (int kind : new int[] {0, 1, 2, 3, 7, 8}) {
            int other = maker.ofKind(kind);
            fails(expect, "1 + " + kind, maker, maker.sum(one, other), one);
            fails(expect, kind + " + 1", maker, maker.sum(other, one), one);
            fails(expect, "1 - " + kind, maker, maker.difference(one, other), one);
            fails(expect, kind + " - 1", maker, maker.difference(other, one), one);
        }
    }

    private static int kindOf(int number) {
        return 5 + Integer.signum(number);
    }

    private static void variablesHaveTheirScope(Expect expect) {
        Maker maker = new Maker();
        SuccessKinds kinds = maker.kinds;
        int x = maker.variable(0);
        int y = maker.variable(1);
        int second = maker.variable(2);
        int third = maker.variable(3);
        int nil = maker.nil();
        int one = maker.number(1);
        int fail = maker.fail();
        fails(expect, "variable 1 of one parameter", maker, y, nil);
        fails(expect, "variable 2 of none", maker, second, nil);
        fails(expect, "an argument's variable", maker, nil, x);
        gives(expect, "let", maker, maker.let(2, one, second), nil, 6, 1);
        gives(expect, "let be atom 0", maker, maker.let(2, maker.atom(0), one), nil, 6, 1);
        fails(expect, "let of the other", maker, maker.let(2, one, third), nil);
        fails(expect, "let not within itself", maker, maker.let(2, second, one), nil);
        fails(expect, "not behind a let", maker, maker.pair(maker.let(2, one, second), second), nil);
        int failing = maker.let(2, one, fail);
        fails(expect, "not behind a let that failed", maker, maker.attempt(failing, second), nil);
        int inner = maker.sum(maker.let(2, maker.number(10), second), second);
        gives(expect, "the outer one comes back", maker, maker.let(2, one, inner), nil, 6, 11);
        int again = maker.attempt(maker.let(2, maker.number(10), fail), second);
        gives(expect, "also behind a failure", maker, maker.let(2, one, again), nil, 6, 1);
        kinds.define(1, second);
        fails(expect, "not in a called function", maker, maker.let(2, one, maker.call(1, one)), nil);
        kinds.define(1, y);
        kinds.define(3, maker.call(1, x));
        expect.throwing("nor its second parameter", Expect.UNSUPPORTED, () -> kinds.run(3, one, one));
        kinds.define(1, maker.let(2, maker.number(5), x));
        int after = maker.pair(maker.call(1, nil), maker.pair(x, second));
        gives(expect, "the caller's are kept", maker, maker.let(2, one, maker.tail(maker.tail(after))), nil, 6, 1);
        fails(expect, "a call's let is not kept", maker, maker.pair(maker.call(1, nil), second), nil);
        kinds.define(3, maker.pair(y, x));
        expect.is("two parameters", 8, () -> kinds.run(3, nil, one));
        expect.is("the second one first", 1, () -> kinds.part(1));
        int atom = maker.atom(0);
        expect.is("atom 0 as both parameters", 8, () -> kinds.run(3, atom, atom));
        expect.is("two parameters again", 8, () -> kinds.run(3, nil, one));
        expect.is("then the first one", 7, () -> kinds.part(2));
    }

    private static void pairsAndCases(Expect expect) {
        Maker maker = new Maker();
        int x = maker.variable(0);
        int one = maker.number(1);
        int two = maker.number(2);
        int fail = maker.fail();
        int pair = maker.pair(one, two);
        gives(expect, "head", maker, maker.head(x), pair, 6, 1);
        gives(expect, "tail", maker, maker.tail(x), pair, 6, 2);
        for (int kind = 0; kind < 8; kind++) {
            int other = maker.ofKind(kind);
            fails(expect, "head of kind " + kind, maker, maker.head(x), other);
            fails(expect, "tail of kind " + kind, maker, maker.tail(x), other);
        }
        for (int kind = 0; kind < 9; kind++) {
            Maker cases = new Maker();
            int yes = cases.atom(1);
            int no = cases.atom(0);
            int wrong = cases.fail();
            int of = cases.ofKind(kind);
            int parameter = cases.variable(0);
            gives(expect, "case in", cases, cases.caseOf(parameter, 1 << kind, yes, wrong), of, 1, 1);
            gives(expect, "case out", cases, cases.caseOf(parameter, 511 - (1 << kind), wrong, no), of, 0, 0);
        }
        fails(expect, "case of fail", maker, maker.caseOf(fail, 511, one, two), one);
        gives(expect, "a variable may be narrowed but is the same value", maker, maker.caseOf(x, 256, x, one), pair, 8, 8);
    }

    private static void same(Expect expect) {
        int kindsInAll = 9;
        for (int one = 0; one < kindsInAll; one++) {
            for (int other = 0; other < kindsInAll; other++) {
                Maker maker = new Maker();
                int x = maker.variable(0);
                int body = maker.same(x, maker.ofKind(other));
                int due = one == other ? 1 : 0;
                gives(expect, "same " + one + ", " + other, maker, body, maker.ofKind(one), due, due);
            }
        }
        Maker maker = new Maker();
        int one = maker.number(1);
        int two = maker.number(2);
        int fail = maker.fail();
        int pair = maker.pair(one, two);
        gives(expect, "1 and 2", maker, maker.same(one, two), one, 0, 0);
        gives(expect, "equal pairs", maker, maker.same(pair, maker.pair(one, two)), one, 1, 1);
        gives(expect, "turned pairs", maker, maker.same(pair, maker.pair(two, one)), one, 0, 0);
        int nested = maker.pair(pair, two);
        int alike = maker.pair(maker.pair(one, two), maker.sum(one, one));
        gives(expect, "equal nested pairs", maker, maker.same(nested, alike), one, 1, 1);
        int unlike = maker.pair(maker.pair(one, one), two);
        gives(expect, "unequal nested pairs", maker, maker.same(nested, unlike), one, 0, 0);
        fails(expect, "same of fail", maker, maker.same(fail, one), one);
        fails(expect, "same and fail", maker, maker.same(one, fail), one);
        sameOfVastPairs(expect);
    }

    /** Each of the 40 pairs doubles the one before: too many parts to go through one by one. */
    private static void sameOfVastPairs(Expect expect) {
        Maker maker = new Maker();
        SuccessKinds kinds = maker.kinds;
        int x = maker.variable(0);
        int second = maker.variable(2);
        int first = maker.pair(x, x);
        int doubled = maker.pair(second, second);
        int fourth = maker.let(2, doubled, maker.let(2, doubled, doubled));
        kinds.define(1, maker.let(2, first, maker.let(2, doubled, fourth)));
        int ten = maker.call(1, maker.call(1, x));
        int same = maker.same(second, second);
        int twenty = maker.call(1, maker.call(1, ten));
        kinds.define(2, maker.let(2, twenty, same));
        int argument = maker.call(1, maker.nil());
        for (int times = 0; times < 3; times++) {
            argument = maker.call(1, argument);
        }
        int wanted = argument;
        expect.is("same of a vast pair", 1, () -> kinds.run(2, wanted, 0));
        kinds.define(2, maker.same(twenty, maker.call(1, maker.call(1, ten))));
        int nil = maker.nil();
        expect.is("same of two vast pairs", 1, () -> kinds.run(2, nil, 0));
        kinds.define(2, twenty);
        expect.is("a vast pair", 8, () -> kinds.run(2, wanted, 0));
        int[] behindTheFirstPairs = {7, 7, 8, 7, 7, 8, 8, 7, 7, 8, 7, 7};
        for (int i = 0; i < 40 + behindTheFirstPairs.length; i++) {
            int place = i;
            expect.is("part(" + i + ")", i < 40 ? 8 : behindTheFirstPairs[i - 40], () -> kinds.part(place));
        }
        expect.throwing("part(60)", Expect.INDEX, () -> kinds.part(60));
    }

    private static void failing(Expect expect) {
        Maker maker = new Maker();
        SuccessKinds kinds = maker.kinds;
        int x = maker.variable(0);
        int nil = maker.nil();
        int one = maker.number(1);
        int fail = maker.fail();
        fails(expect, "fail", maker, fail, nil);
        gives(expect, "try fail", maker, maker.attempt(fail, one), nil, 6, 1);
        gives(expect, "try what succeeds", maker, maker.attempt(nil, one), nil, 7, 7);
        gives(expect, "else is not worked out", maker, maker.attempt(nil, fail), nil, 7, 7);
        fails(expect, "else fails", maker, maker.attempt(fail, fail), nil);
        gives(expect, "the next try around", maker, maker.attempt(maker.attempt(fail, fail), one), nil, 6, 1);
        gives(expect, "up through parts", maker, maker.attempt(maker.pair(nil, maker.head(nil)), one), nil, 6, 1);
        kinds.define(1, maker.head(x));
        kinds.define(2, maker.call(1, x));
        gives(expect, "up through calls", maker, maker.attempt(maker.call(2, nil), one), nil, 6, 1);
        gives(expect, "a call without a body", maker, maker.attempt(maker.call(3, nil, nil), one), nil, 6, 1);
        fails(expect, "uncaught in a call", maker, maker.call(2, nil), nil);
        fails(expect, "an argument that fails", maker, maker.attempt(nil, nil), fail);
    }

    /** The pair of a failing call and a call tells by calls() which of them was worked out first. */
    private static void order(Expect expect) {
        Maker maker = new Maker();
        SuccessKinds kinds = maker.kinds;
        int nil = maker.nil();
        int fail = maker.fail();
        kinds.define(1, nil);
        int call = maker.call(1, nil);
        for (int sort : new int[] {4, 5, 6, 13}) {
            fails(expect, "first fails", maker, kinds.make(sort, fail, call, 0, 0), nil);
            expect.is("sort " + sort + ": the second is left", 1, () -> kinds.calls());
            fails(expect, "second fails", maker, kinds.make(sort, call, fail, 0, 0), nil);
            expect.is("sort " + sort + ": the first comes first", 2, () -> kinds.calls());
        }
        fails(expect, "both are worked out", maker, maker.sum(nil, call), nil);
        expect.is("before the sum fails", 2, () -> kinds.calls());
        fails(expect, "first argument fails", maker, maker.call(3, fail, call), nil);
        expect.is("the second argument is left", 1, () -> kinds.calls());
        fails(expect, "second argument fails", maker, maker.call(3, call, fail), nil);
        expect.is("the first argument comes first", 2, () -> kinds.calls());
        fails(expect, "let in fail", maker, maker.let(2, call, fail), nil);
        expect.is("let's value comes first", 2, () -> kinds.calls());
        gives(expect, "one of a case", maker, maker.caseOf(nil, 128, nil, call), nil, 7, 7);
        expect.is("the other is left", 1, () -> kinds.calls());
        gives(expect, "try", maker, maker.attempt(call, call), nil, 7, 7);
        expect.is("else is left", 2, () -> kinds.calls());
    }

    private static void arguments(Expect expect) {
        Maker maker = new Maker();
        SuccessKinds kinds = maker.kinds;
        int x = maker.variable(0);
        int nil = maker.nil();
        int fail = maker.fail();
        kinds.define(1, x);
        int call = maker.call(1, nil);
        kinds.define(3, x);
        expect.is("calls in arguments", 7, () -> kinds.run(3, call, call));
        expect.is("all in one run", 3, () -> kinds.calls());
        expect.throwing("second argument fails", Expect.UNSUPPORTED, () -> kinds.run(3, call, fail));
        expect.is("after the first one", 1, () -> kinds.calls());
        expect.throwing("first argument fails", Expect.UNSUPPORTED, () -> kinds.run(3, fail, call));
        expect.is("before the second one", 0, () -> kinds.calls());
        kinds.define(0, nil);
        expect.is("y is left", 7, () -> kinds.run(0, nil, fail));
        expect.throwing("an unused argument fails", Expect.UNSUPPORTED, () -> kinds.run(0, fail, nil));
    }

    private static void callsCounted(Expect expect) {
        Maker maker = new Maker();
        SuccessKinds kinds = maker.kinds;
        int x = maker.variable(0);
        int nil = maker.nil();
        kinds.define(1, x);
        int call = maker.call(1, x);
        kinds.define(0, maker.pair(call, maker.pair(call, maker.call(1, call))));
        expect.is("before any run", 0, () -> kinds.calls());
        expect.is("five calls", 8, () -> kinds.run(0, nil, 0));
        expect.is("calls()", 5, () -> kinds.calls());
        expect.is("calls() again", 5, () -> kinds.calls());
        expect.throwing("wrong function", Expect.ARGUMENT, () -> kinds.run(6, nil, 0));
        expect.throwing("wrong expression", Expect.ARGUMENT, () -> kinds.run(0, 80, 0));
        expect.throwing("wrong second expression", Expect.ARGUMENT, () -> kinds.run(3, nil, 80));
        expect.is("calls() is unchanged", 5, () -> kinds.calls());
        kinds.gives(0);
        kinds.hopeless(0);
        expect.is("calls() is unchanged by questions", 5, () -> kinds.calls());
        expect.throwing("no body", Expect.UNSUPPORTED, () -> kinds.run(4, nil, nil));
        expect.is("calls() of no body", 1, () -> kinds.calls());
        expect.throwing("failing argument", Expect.UNSUPPORTED, () -> kinds.run(4, x, nil));
        expect.is("calls() of a failing argument", 0, () -> kinds.calls());
    }

    private static void wrongArguments(Expect expect) {
        Maker maker = new Maker();
        SuccessKinds kinds = maker.kinds;
        int nil = maker.nil();
        kinds.define(2, nil);
        kinds.define(3, nil);
        for (int wrong : new int[] {-1, 6, Integer.MAX_VALUE, Integer.MIN_VALUE}) {
            expect.throwing("run(" + wrong + ", 0, 0)", Expect.ARGUMENT, () -> kinds.run(wrong, 0, 0));
        }
        for (int wrong : new int[] {-1, 1, 90, Integer.MAX_VALUE, Integer.MIN_VALUE}) {
            expect.throwing("run(2, " + wrong + ", 0)", Expect.ARGUMENT, () -> kinds.run(2, wrong, 0));
            expect.throwing("run(3, " + wrong + ", 0)", Expect.ARGUMENT, () -> kinds.run(3, wrong, 0));
            expect.throwing("run(3, 0, " + wrong + ")", Expect.ARGUMENT, () -> kinds.run(3, 0, wrong));
            expect.throwing("run(4, 0, " + wrong + ")", Expect.ARGUMENT, () -> kinds.run(4, 0, wrong));
            expect.is("run(2, 0, " + wrong + ")", 7, () -> kinds.run(2, 0, wrong));
        }
    }
}
