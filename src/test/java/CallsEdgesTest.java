/** Edges of calls: when there was no run, and behind runs that threw. */
public final class CallsEdgesTest {
    public static void main(String[] args) {
        Expect expect = new Expect();
        noRunYet(expect);
        behindOneThatFailed(expect);
        behindOneThatWasCutOff(expect);
        behindOneThatWasRefused(expect);
        everyRunBeginsAnew(expect);
        fromNoneToMany(expect);
        expect.finish();
    }

    /** "0 when there was none": whatever else was called, and also behind a run that was refused. */
    private static void noRunYet(Expect expect) {
        Maker maker = new Maker();
        SuccessKinds kinds = maker.kinds;
        expect.is("a new object", 0, () -> kinds.calls());
        int call = maker.call(0, maker.nil());
        kinds.define(1, call);
        kinds.gives(1);
        kinds.may(1, 0);
        kinds.hopeless(1);
        expect.is("behind other calls", 0, () -> kinds.calls());
        expect.throwing("no function", Expect.ARGUMENT, () -> kinds.run(6, 0, 0));
        expect.throwing("no expression", Expect.ARGUMENT, () -> kinds.run(1, 2, 0));
        expect.throwing("no second expression", Expect.ARGUMENT, () -> kinds.run(3, 0, 2));
        expect.throwing("no part", Expect.INDEX, () -> kinds.part(0));
        expect.is("behind what was refused", 0, () -> kinds.calls());
    }

    /** "also in one that threw UnsupportedOperationException" */
    private static void behindOneThatFailed(Expect expect) {
        Maker maker = new Maker();
        SuccessKinds kinds = maker.kinds;
        int nil = maker.nil();
        int fail = maker.fail();
        int x = maker.variable(0);
        kinds.define(1, x);
        kinds.define(2, fail);
        expect.throwing("x fails", Expect.UNSUPPORTED, () -> kinds.run(1, fail, 0));
        expect.is("no call was made", 0, () -> kinds.calls());
        expect.throwing("the body fails", Expect.UNSUPPORTED, () -> kinds.run(2, nil, 0));
        expect.is("one call was made", 1, () -> kinds.calls());
        expect.throwing("no body", Expect.UNSUPPORTED, () -> kinds.run(0, nil, 0));
        expect.is("one call was made, of no body", 1, () -> kinds.calls());
        int call = maker.call(1, nil);
        kinds.define(3, maker.pair(call, maker.pair(call, maker.call(2, call))));
        expect.throwing("the fifth call fails", Expect.UNSUPPORTED, () -> kinds.run(3, nil, nil));
        expect.is("five calls were made", 5, () -> kinds.calls());
        expect.throwing("y fails behind a call in x", Expect.UNSUPPORTED, () -> kinds.run(3, call, fail));
        expect.is("the one in x was made", 1, () -> kinds.calls());
    }

    /** "or IllegalStateException" */
    private static void behindOneThatWasCutOff(Expect expect) {
        Maker maker = new Maker();
        SuccessKinds kinds = maker.kinds;
        Sized sized = new Sized(maker);
        int nil = maker.nil();
        int x = maker.variable(0);
        kinds.define(0, maker.call(0, x));
        expect.throwing("too deep", Expect.STATE, () -> kinds.run(0, nil, 0));
        expect.is("five calls were made", 5, () -> kinds.calls());
        int deep = maker.call(0, nil);
        kinds.define(1, x);
        expect.throwing("too deep in x", Expect.STATE, () -> kinds.run(1, deep, 0));
        expect.is("five calls were made in x", 5, () -> kinds.calls());
        int failures = sized.ofFailures(7);
        expect.throwing("too many failures in x", Expect.STATE, () -> kinds.run(1, failures, 0));
        expect.is("no call was made", 0, () -> kinds.calls());
        kinds.define(2, sized.ofPairs(20));
        expect.throwing("too many pairs", Expect.STATE, () -> kinds.run(2, sized.ofPairs(21), 0));
        expect.is("one call was made", 1, () -> kinds.calls());
    }

    /** A call that is refused is no run: the number is the one of the run before. */
    private static void behindOneThatWasRefused(Expect expect) {
        Maker maker = new Maker();
        SuccessKinds kinds = maker.kinds;
        int nil = maker.nil();
        kinds.define(1, nil);
        kinds.define(0, maker.pair(maker.call(1, nil), maker.call(1, nil)));
        kinds.run(0, nil, 0);
        expect.is("three calls", 3, () -> kinds.calls());
        for (int wrong : new int[] {-1, 6}) {
            expect.throwing("no function " + wrong, Expect.ARGUMENT, () -> kinds.run(wrong, nil, nil));
        }
        expect.throwing("no x", Expect.ARGUMENT, () -> kinds.run(0, 90, nil));
        expect.throwing("no y", Expect.ARGUMENT, () -> kinds.run(5, nil, 90));
        expect.is("still three calls", 3, () -> kinds.calls());
        expect.throwing("no body", Expect.UNSUPPORTED, () -> kinds.run(5, nil, nil));
        expect.is("now one", 1, () -> kinds.calls());
        expect.throwing("no y again", Expect.ARGUMENT, () -> kinds.run(5, nil, 90));
        expect.is("still one", 1, () -> kinds.calls());
    }

    private static void everyRunBeginsAnew(Expect expect) {
        Maker maker = new Maker();
        SuccessKinds kinds = maker.kinds;
        int nil = maker.nil();
        kinds.define(1, nil);
        kinds.define(0, maker.call(1, nil));
        for (int again = 0; again < 4; again++) {
            expect.is("a run of two", 7, () -> kinds.run(0, nil, 0));
            expect.is("two calls", 2, () -> kinds.calls());
            expect.is("two calls, asked again", 2, () -> kinds.calls());
            expect.is("a run of one", 7, () -> kinds.run(1, nil, 0));
            expect.is("one call", 1, () -> kinds.calls());
        }
    }

    /** As many as fit among 200 expressions: each call takes 3 here. */
    private static void fromNoneToMany(Expect expect) {
        Maker maker = new Maker();
        SuccessKinds kinds = maker.kinds;
        int nil = maker.nil();
        kinds.define(1, nil);
        int call = maker.call(1, nil);
        int two = maker.let(2, call, call);
        int four = maker.let(2, two, two);
        // 8 calls, 8 * 3 + 7 = 31 expressions
        int eight = maker.let(2, four, four);
        kinds.define(2, eight);
        // 9 calls, 2 + 31 = 33 expressions
        int nine = maker.call(2, nil);
        int body = maker.let(2, nine, maker.let(2, nine, maker.let(2, nine, nine)));
        kinds.define(0, body);
        expect.is("1 + 3 + 4 * 33 = 136 expressions", 7, () -> kinds.run(0, nil, 0));
        expect.is("1 + 4 * 9 calls", 37, () -> kinds.calls());
        int argument = maker.let(2, nine, eight);
        expect.is("1 + 33 + 31 + 135 = 200 expressions", 7, () -> kinds.run(0, argument, 0));
        expect.is("9 + 8 + 37 calls", 54, () -> kinds.calls());
        kinds.define(0, maker.attempt(body, nil));
        expect.throwing("201 expressions", Expect.STATE, () -> kinds.run(0, argument, 0));
        expect.is("the last body was not worked out, but its call was made", 54, () -> kinds.calls());
        kinds.define(0, maker.let(3, nil, body));
        expect.throwing("202 expressions", Expect.STATE, () -> kinds.run(0, argument, 0));
        expect.is("the last call's argument was not worked out", 53, () -> kinds.calls());
    }
}
