import java.util.HashSet;
import java.util.Set;

/** Edges of hopeless calls: what is come to, what isn't, and what counts once. */
public final class HopelessEdgesTest {
    public static void main(String[] args) {
        Expect expect = new Expect();
        withoutABody(expect);
        sidesOfACase(expect);
        sidesOfANarrowedVariable(expect);
        caseOfNothing(expect);
        letOfNothing(expect);
        elseOfATry(expect);
        allPartsAreLookedAt(expect);
        allArgumentsAreLookedAt(expect);
        whereverItIsComeTo(expect);
        neverComeTo(expect);
        parametersMayBeAnything(expect);
        differentExpressions(expect);
        askedOfOneBodyAndAnother(expect);
        callsAlone(expect);
        noSuchExpression(expect);
        expect.finish();
    }

    /** Defines a function and compares which of all expressions made so far are hopeless in it. */
    private static void due(Expect expect, String what, Maker maker, int function, int body, int... hopeless) {
        SuccessKinds kinds = maker.kinds;
        kinds.define(function, body);
        Set<Integer> wanted = new HashSet<>();
        for (int expression : hopeless) {
            wanted.add(expression);
        }
        expect.is(what + ": hopeless(" + function + ")", wanted.size(), () -> kinds.hopeless(function));
        int last = maker.nil();
        for (int expression = 0; expression <= last; expression++) {
            String call = what + ": isHopeless(" + function + ", " + expression + ")";
            expect.is(call, wanted.contains(expression), kinds.isHopeless(function, expression));
        }
    }

    private static void withoutABody(Expect expect) {
        for (int function = 0; function <= 5; function++) {
            int f = function;
            Maker maker = new Maker();
            int call = maker.call(f, maker.nil(), 0);
            expect.is("hopeless without a body", 0, () -> maker.kinds.hopeless(f));
            expect.is("isHopeless without a body", false, maker.kinds.isHopeless(f, call));
            due(expect, "itself alone", maker, f, call, call);
            due(expect, "no call", maker, f, maker.nil());
        }
    }

    /** "c or d of a CASE .. only if they are looked at by the above": by a part of one kind. */
    private static void sidesOfACase(Expect expect) {
        for (int kind = 0; kind <= 8; kind++) {
            Maker maker = new Maker();
            int value = maker.ofKind(kind);
            int c = maker.call(5, value, value);
            int d = maker.call(4, value, value);
            due(expect, kind + " in its set", maker, 0, maker.caseOf(value, 1 << kind, c, d), c);
            due(expect, kind + " in all", maker, 0, maker.caseOf(value, 511, c, d), c);
            due(expect, kind + " in all others", maker, 0, maker.caseOf(value, 511 - (1 << kind), c, d), d);
            due(expect, kind + " in none", maker, 0, maker.caseOf(value, 0, c, d), d);
        }
    }

    /** .. and by a variable whose set was made smaller by a CASE around. */
    private static void sidesOfANarrowedVariable(Expect expect) {
        for (int kind = 0; kind <= 8; kind++) {
            Maker maker = new Maker();
            int set = 1 << kind;
            int x = maker.variable(0);
            int nil = maker.nil();
            int c = maker.call(5, x, x);
            int d = maker.call(4, x, x);
            due(expect, "both sides of " + kind, maker, 0, maker.caseOf(x, set, c, d), c, d);
            due(expect, "c in all", maker, 0, maker.caseOf(x, 511, c, d), c);
            due(expect, "d in none", maker, 0, maker.caseOf(x, 0, c, d), d);
            int again = maker.caseOf(x, set, c, d);
            due(expect, "again in c of " + kind, maker, 0, maker.caseOf(x, set, again, nil), c);
            due(expect, "again in d of " + kind, maker, 0, maker.caseOf(x, set, nil, again), d);
            int next = 1 << (kind + 1) % 9;
            int inner = maker.caseOf(x, set, c, d);
            due(expect, "c of " + next + " in c of both", maker, 0, maker.caseOf(x, set + next, inner, nil), c, d);
        }
    }

    /** "and what follows a part that gives nothing": neither c nor d. */
    private static void caseOfNothing(Expect expect) {
        Maker maker = new Maker();
        int nil = maker.nil();
        int fail = maker.fail();
        int c = maker.call(5, nil, nil);
        int d = maker.call(4, nil, nil);
        int looked = maker.call(1, nil);
        for (int set : new int[] {0, 128, 511}) {
            due(expect, "case of fail in " + set, maker, 0, maker.caseOf(fail, set, c, d));
            due(expect, "case of a hopeless call in " + set, maker, 0, maker.caseOf(looked, set, c, d), looked);
            due(expect, "case of nothing given in " + set, maker, 0, maker.caseOf(maker.variable(3), set, c, d));
        }
        due(expect, "case of nil", maker, 0, maker.caseOf(nil, 128, c, d), c);
    }

    private static void letOfNothing(Expect expect) {
        for (int variable = 2; variable <= 3; variable++) {
            Maker maker = new Maker();
            int nil = maker.nil();
            int before = maker.call(4, nil, nil);
            int behind = maker.call(5, nil, nil);
            due(expect, "let be fail", maker, 0, maker.let(variable, maker.fail(), behind));
            due(expect, "let be hopeless", maker, 0, maker.let(variable, before, behind), before);
            due(expect, "let be nil", maker, 0, maker.let(variable, nil, behind), behind);
            int caught = maker.attempt(before, nil);
            due(expect, "let be a try", maker, 0, maker.let(variable, caught, behind), before, behind);
            due(expect, "let be nothing given", maker, 0, maker.let(variable, maker.variable(variable), behind));
        }
    }

    /** Both parts of a TRY are looked at, whatever the first one gives. */
    private static void elseOfATry(Expect expect) {
        Maker maker = new Maker();
        int nil = maker.nil();
        int a = maker.call(4, nil, nil);
        int b = maker.call(5, nil, nil);
        due(expect, "try of hopeless calls", maker, 0, maker.attempt(a, b), a, b);
        due(expect, "try of what gives something", maker, 0, maker.attempt(nil, b), b);
        due(expect, "try of fail", maker, 0, maker.attempt(maker.fail(), b), b);
        due(expect, "try else fail", maker, 0, maker.attempt(a, maker.fail()), a);
    }

    /** "of a CALL, a PAIR, SUM, DIFFERENCE and SAME all parts are looked at" */
    private static void allPartsAreLookedAt(Expect expect) {
        for (int sort : new int[] {4, 5, 6, 13}) {
            Maker maker = new Maker();
            SuccessKinds kinds = maker.kinds;
            int nil = maker.nil();
            int fail = maker.fail();
            int a = maker.call(4, nil, nil);
            int b = maker.call(5, nil, nil);
            String what = "sort " + sort;
            due(expect, what + " of two", maker, 0, kinds.make(sort, a, b, 0, 0), a, b);
            due(expect, what + " behind fail", maker, 0, kinds.make(sort, fail, b, 0, 0), b);
            due(expect, what + " before fail", maker, 0, kinds.make(sort, a, fail, 0, 0), a);
            due(expect, what + " behind nil", maker, 0, kinds.make(sort, nil, b, 0, 0), b);
        }
        for (int sort = 7; sort <= 8; sort++) {
            Maker maker = new Maker();
            int a = maker.call(4, maker.nil(), 0);
            due(expect, "sort " + sort, maker, 0, maker.kinds.make(sort, a, 0, 0, 0), a);
        }
    }

    private static void allArgumentsAreLookedAt(Expect expect) {
        Maker maker = new Maker();
        int nil = maker.nil();
        int fail = maker.fail();
        int a = maker.call(4, nil, nil);
        int b = maker.call(5, nil, nil);
        maker.kinds.define(1, nil);
        maker.kinds.define(3, nil);
        int both = maker.call(3, a, b);
        due(expect, "two hopeless arguments", maker, 0, both, a, b, both);
        int behind = maker.call(3, fail, b);
        due(expect, "a hopeless argument behind fail", maker, 0, behind, b, behind);
        int before = maker.call(3, a, fail);
        due(expect, "a hopeless argument before fail", maker, 0, before, a, before);
        int good = maker.call(3, nil, nil);
        due(expect, "no hopeless argument", maker, 0, good);
        int one = maker.call(1, a);
        due(expect, "one argument", maker, 0, one, a, one);
        int alone = maker.call(1, nil, b);
        due(expect, "a second argument where there is none", maker, 0, alone);
        int caught = maker.call(3, maker.attempt(a, nil), nil);
        due(expect, "a hopeless argument in a try", maker, 0, caught, a);
    }

    /** "and gives nothing wherever it is come to": function 1 takes nil alone. */
    private static void whereverItIsComeTo(Expect expect) {
        Maker maker = new Maker();
        int x = maker.variable(0);
        int nil = maker.nil();
        int fail = maker.fail();
        maker.kinds.define(1, maker.caseOf(x, 128, x, fail));
        int call = maker.call(1, x);
        int never = maker.caseOf(x, 128, nil, call);
        int just = maker.caseOf(x, 128, call, nil);
        due(expect, "come to with all but nil", maker, 0, never, call);
        due(expect, "come to with nil alone", maker, 0, just);
        due(expect, "come to with anything", maker, 0, call);
        due(expect, "nothing, then something", maker, 0, maker.pair(never, just));
        due(expect, "something, then nothing", maker, 0, maker.pair(just, never));
        due(expect, "nothing, then nothing", maker, 0, maker.pair(never, never), call);
        due(expect, "nothing, then not come to", maker, 0,
                maker.pair(never, maker.caseOf(nil, 0, call, nil)), call);
        due(expect, "not come to, then something", maker, 0, maker.pair(maker.let(2, fail, call), just));
        int bound = maker.call(1, maker.variable(2));
        int twice = maker.pair(maker.let(2, nil, bound), maker.let(2, fail, bound));
        due(expect, "by a let of nil, and not by one of fail", maker, 0, twice);
        int other = maker.pair(maker.let(2, nil, bound), maker.let(2, maker.number(1), bound));
        due(expect, "by a let of nil and one of 1", maker, 0, other);
        due(expect, "by a let of 1", maker, 0, maker.let(2, maker.number(1), bound), bound);
    }

    /** What isn't come to is not hopeless, nor what isn't in the body. */
    private static void neverComeTo(Expect expect) {
        Maker maker = new Maker();
        int nil = maker.nil();
        int call = maker.call(5, nil, nil);
        due(expect, "elsewhere", maker, 0, nil);
        due(expect, "in c of none", maker, 0, maker.caseOf(nil, 0, call, nil));
        due(expect, "in d of all", maker, 0, maker.caseOf(nil, 511, nil, call));
        due(expect, "behind a let of fail", maker, 0, maker.let(2, maker.fail(), call));
        due(expect, "come to in another body", maker, 1, call, call);
        expect.is("still not in the first", 0, () -> maker.kinds.hopeless(0));
        expect.is("nor by itself", false, maker.kinds.isHopeless(0, call));
    }

    /** "with all parameters' sets ALL": variable 1 has one only in functions 3 to 5. */
    private static void parametersMayBeAnything(Expect expect) {
        for (int function = 0; function <= 5; function++) {
            Maker maker = new Maker();
            int taker = (function + 1) % 3;
            maker.kinds.define(taker, maker.variable(0));
            int first = maker.call(taker, maker.variable(0));
            int second = maker.call(taker, maker.variable(1));
            int third = maker.call(taker, maker.variable(2));
            int body = maker.pair(first, maker.pair(second, third));
            if (function <= 2) {
                due(expect, "one parameter", maker, function, body, second, third);
            } else {
                due(expect, "two parameters", maker, function, body, third);
            }
        }
    }

    /** "How many different call expressions": one that comes again counts once, an equal one by itself. */
    private static void differentExpressions(Expect expect) {
        Maker maker = new Maker();
        int nil = maker.nil();
        int one = maker.call(5, nil, nil);
        int twin = maker.call(5, nil, nil);
        due(expect, "once", maker, 0, one, one);
        due(expect, "twice the same", maker, 0, maker.pair(one, one), one);
        due(expect, "two that are equal", maker, 0, maker.pair(one, twin), one, twin);
        int four = maker.pair(maker.pair(one, twin), maker.pair(twin, one));
        due(expect, "each twice", maker, 0, four, one, twin);
        manyInOneBody(expect);
    }

    /** As many calls as a body of pairs has room for, all of them hopeless and then none. */
    private static void manyInOneBody(Expect expect) {
        Maker maker = new Maker();
        int nil = maker.nil();
        int[] calls = new int[16];
        for (int i = 0; i < calls.length; i++) {
            calls[i] = maker.call(0, nil);
        }
        int[] row = calls.clone();
        for (int left = row.length / 2; left >= 1; left /= 2) {
            for (int i = 0; i < left; i++) {
                row[i] = maker.pair(row[2 * i], row[2 * i + 1]);
            }
        }
        due(expect, "16 calls", maker, 1, row[0], calls);
        maker.kinds.define(0, nil);
        due(expect, "16 calls that are good", maker, 1, row[0]);
    }

    /** "hopeless in a function's body": asked in turns, of bodies where a call is hopeless, good, and not come to. */
    private static void askedOfOneBodyAndAnother(Expect expect) {
        Maker maker = new Maker();
        SuccessKinds kinds = maker.kinds;
        int y = maker.variable(1);
        int nil = maker.nil();
        kinds.define(1, nil);
        int call = maker.call(1, y);
        kinds.define(0, call);
        kinds.define(3, call);
        kinds.define(2, maker.caseOf(nil, 0, call, nil));
        for (int again = 0; again < 2; again++) {
            expect.is("in 0, where nothing was given to variable 1", true, kinds.isHopeless(0, call));
            expect.is("in 3", false, kinds.isHopeless(3, call));
            expect.is("in 0 again", true, kinds.isHopeless(0, call));
            expect.is("in 2", false, kinds.isHopeless(2, call));
            expect.is("how many in 0", 1, () -> kinds.hopeless(0));
            expect.is("in 3, behind that", false, kinds.isHopeless(3, call));
            expect.is("how many in 3", 0, () -> kinds.hopeless(3));
            expect.is("in 0, behind that", true, kinds.isHopeless(0, call));
            expect.is("in 5, without a body", false, kinds.isHopeless(5, call));
        }
    }

    /** "Whether an expression is a call that is hopeless": what else gives nothing is not. */
    private static void callsAlone(Expect expect) {
        Maker maker = new Maker();
        int nil = maker.nil();
        int fail = maker.fail();
        due(expect, "fail", maker, 0, fail);
        due(expect, "head of nil", maker, 0, maker.head(nil));
        due(expect, "variable that nothing was given to", maker, 0, maker.variable(3));
        int call = maker.call(5, nil, nil);
        due(expect, "head of a hopeless call", maker, 0, maker.head(call), call);
    }

    private static void noSuchExpression(Expect expect) {
        Maker maker = new Maker();
        SuccessKinds kinds = maker.kinds;
        expect.throwing("before any is made", Expect.ARGUMENT, () -> kinds.isHopeless(0, 0) ? 1 : 0);
        int call = maker.call(5, maker.nil(), 0);
        kinds.define(0, call);
        expect.is("the last one made", true, kinds.isHopeless(0, call));
        for (int wrong : new int[] {-1, call + 1, 89, 90, Integer.MAX_VALUE, Integer.MIN_VALUE}) {
            expect.throwing("isHopeless of " + wrong, Expect.ARGUMENT, () -> kinds.isHopeless(0, wrong) ? 1 : 0);
        }
    }
}
