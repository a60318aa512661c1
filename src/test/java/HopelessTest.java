import java.util.HashSet;
import java.util.Set;

/** Promises 6 and 7: hopeless and isHopeless. */
public final class HopelessTest {
    public static void main(String[] args) {
        Expect expect = new Expect();
        onlyCalls(expect);
        whatIsComeTo(expect);
        allPartsAreLookedAt(expect);
        whereverItIsComeTo(expect);
        countedOnce(expect);
        inWhichBody(expect);
        wrongArguments(expect);
        expect.finish();
    }

    /** Compares which expressions are hopeless in a function's body, one by one and their count. */
    private static void due(Expect expect, String what, Maker maker, int function, int made, int... hopeless) {
        SuccessKinds kinds = maker.kinds;
        Set<Integer> wanted = new HashSet<>();
        for (int expression : hopeless) {
            wanted.add(expression);
        }
        expect.is(what + ": hopeless(" + function + ")", wanted.size(), () -> kinds.hopeless(function));
        for (int expression = 0; expression <= made; expression++) {
            String call = what + ": isHopeless(" + function + ", " + expression + ")";
            expect.is(call, wanted.contains(expression), kinds.isHopeless(function, expression));
        }
    }

    private static void onlyCalls(Expect expect) {
        Maker maker = new Maker();
        int x = maker.variable(0);
        int good = maker.call(1, x);
        int bad = maker.call(2, x);
        int headOfNil = maker.head(maker.nil());
        int body = maker.pair(maker.pair(good, bad), headOfNil);
        maker.kinds.define(1, x);
        due(expect, "no body", maker, 0, body);
        maker.kinds.define(0, body);
        due(expect, "two calls", maker, 0, body, bad);
        due(expect, "no calls", maker, 1, body);
        maker.kinds.define(0, bad);
        expect.is("isHopeless without hopeless before", true, maker.kinds.isHopeless(0, bad));
        maker.kinds.define(2, x);
        expect.is("isHopeless at once after define", false, maker.kinds.isHopeless(0, bad));
        maker.kinds.define(2, headOfNil);
        due(expect, "the body itself", maker, 0, body, bad);
    }

    private static void whatIsComeTo(Expect expect) {
        Maker maker = new Maker();
        SuccessKinds kinds = maker.kinds;
        int x = maker.variable(0);
        int nil = maker.nil();
        int fail = maker.fail();
        int one = maker.call(1, x);
        int two = maker.call(2, x);
        int three = maker.call(2, nil);
        int both = maker.caseOf(nil, 3, one, two);
        kinds.define(0, both);
        due(expect, "only what isn't in the set", maker, 0, both, two);
        int in = maker.caseOf(nil, Maker.NIL, one, two);
        kinds.define(0, in);
        due(expect, "only what is in the set", maker, 0, in, one);
        int any = maker.caseOf(x, 3, one, two);
        kinds.define(0, any);
        due(expect, "both", maker, 0, any, one, two);
        int stopped = maker.caseOf(three, 3, one, two);
        kinds.define(0, stopped);
        due(expect, "behind a part that gives nothing", maker, 0, stopped, three);
        int let = maker.let(2, three, one);
        kinds.define(0, let);
        due(expect, "let be nothing", maker, 0, let, three);
        int through = maker.let(2, nil, one);
        kinds.define(0, through);
        due(expect, "let be nil", maker, 0, through, one);
        int within = maker.let(2, maker.caseOf(one, 1, nil, fail), two);
        kinds.define(0, within);
        due(expect, "let be a case", maker, 0, within, one);
        int narrowed = maker.caseOf(x, 3, maker.caseOf(x, 12, one, nil), two);
        kinds.define(0, narrowed);
        due(expect, "an empty case in a case", maker, 0, narrowed, two);
        int attempt = maker.attempt(one, two);
        kinds.define(0, attempt);
        due(expect, "both of a try", maker, 0, attempt, one, two);
        int attemptNil = maker.attempt(nil, two);
        kinds.define(0, attemptNil);
        due(expect, "else of a try that succeeds", maker, 0, attemptNil, two);
        int head = maker.head(maker.tail(one));
        kinds.define(0, head);
        due(expect, "in a head", maker, 0, head, one);
    }

    private static void allPartsAreLookedAt(Expect expect) {
        for (int sort : new int[] {4, 5, 6, 13}) {
            Maker maker = new Maker();
            int fail = maker.fail();
            int one = maker.call(1, maker.nil());
            int two = maker.call(2, one);
            int body = maker.kinds.make(sort, maker.kinds.make(sort, fail, one, 0, 0), two, 0, 0);
            maker.kinds.define(0, body);
            due(expect, "parts of sort " + sort, maker, 0, body, one, two);
        }
        Maker maker = new Maker();
        int fail = maker.fail();
        int one = maker.call(1, maker.nil());
        int outer = maker.call(3, fail, one);
        maker.kinds.define(0, outer);
        due(expect, "arguments of a call", maker, 0, outer, one, outer);
    }

    private static void whereverItIsComeTo(Expect expect) {
        Maker maker = new Maker();
        SuccessKinds kinds = maker.kinds;
        int x = maker.variable(0);
        int fail = maker.fail();
        kinds.define(1, maker.caseOf(x, 3, x, fail));
        int call = maker.call(1, x);
        int bad = maker.caseOf(x, 3, fail, call);
        kinds.define(0, bad);
        due(expect, "come to once", maker, 0, bad, call);
        int goodThenBad = maker.caseOf(x, 3, call, call);
        kinds.define(0, goodThenBad);
        due(expect, "gives something first", maker, 0, goodThenBad);
        int badThenGood = maker.pair(bad, call);
        kinds.define(0, badThenGood);
        due(expect, "gives something last", maker, 0, badThenGood);
        int twin = maker.call(1, x);
        int twins = maker.caseOf(x, 3, call, twin);
        kinds.define(0, twins);
        due(expect, "the same call made twice is two expressions", maker, 0, twins, twin);
    }

    private static void countedOnce(Expect expect) {
        Maker maker = new Maker();
        int call = maker.call(2, maker.nil());
        int body = maker.pair(maker.pair(call, call), call);
        maker.kinds.define(0, body);
        due(expect, "thrice the same", maker, 0, body, call);
    }

    private static void inWhichBody(Expect expect) {
        Maker maker = new Maker();
        SuccessKinds kinds = maker.kinds;
        int x = maker.variable(0);
        int y = maker.variable(1);
        kinds.define(1, x);
        int call = maker.call(1, y);
        int other = maker.call(2, x);
        kinds.define(0, call);
        kinds.define(3, call);
        due(expect, "variable 1 of one parameter", maker, 0, other, call);
        due(expect, "variable 1 of two", maker, 3, other);
        kinds.define(4, maker.attempt(other, call));
        due(expect, "a body of two calls", maker, 4, other, other);
        due(expect, "still the first body", maker, 0, other, call);
        kinds.define(2, x);
        due(expect, "after a new body elsewhere", maker, 4, other);
    }

    private static void wrongArguments(Expect expect) {
        Maker maker = new Maker();
        SuccessKinds kinds = maker.kinds;
        kinds.define(0, maker.nil());
        for (int wrong : new int[] {-1, 6, Integer.MAX_VALUE, Integer.MIN_VALUE}) {
            expect.throwing("hopeless(" + wrong + ")", Expect.ARGUMENT, () -> kinds.hopeless(wrong));
            expect.throwing("isHopeless(" + wrong + ", 0)", Expect.ARGUMENT, () -> kinds.isHopeless(wrong, 0) ? 1 : 0);
        }
        for (int wrong : new int[] {-1, 1, 90, Integer.MAX_VALUE, Integer.MIN_VALUE}) {
            expect.throwing("isHopeless(0, " + wrong + ")", Expect.ARGUMENT, () -> kinds.isHopeless(0, wrong) ? 1 : 0);
        }
    }
}
