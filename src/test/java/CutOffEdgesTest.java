/** Edges of running: the four ways to be cut off, each on both sides, and functions without a body. */
public final class CutOffEdgesTest {
    public static void main(String[] args) {
        Expect expect = new Expect();
        callInsideOfFiveOthers(expect);
        callsThatAreNotInside(expect);
        sixthCallWithoutABody(expect);
        sixthCallWhoseArgumentFails(expect);
        stepsOfArgumentsAndBodies(expect);
        stepsThatAreNotTaken(expect);
        stepsThatFailed(expect);
        lastStep(expect);
        pairsInAll(expect);
        pairsThatAreForgotten(expect);
        pairsThatAreNotMade(expect);
        failuresInAll(expect);
        failuresUncaught(expect);
        failuresOfEveryCause(expect);
        failureThatGoesUp(expect);
        noTryCatches(expect);
        everyRunBeginsAnew(expect);
        manyPairsInManyRuns(expect);
        functionWithoutABody(expect);
        expect.finish();
    }

    /** The answer of a run of function 0, and how many calls were made in it. */
    private static void due(Expect expect, String what, Maker maker, int body, int x, String answer, int calls) {
        maker.kinds.define(0, body);
        expect.compare(what, answer, Expect.answerOf(() -> maker.kinds.run(0, x, -1)));
        expect.is(what + ": calls()", calls, () -> maker.kinds.calls());
    }

    private static final String FAILS = Expect.UNSUPPORTED.getName();
    private static final String CUT_OFF = Expect.STATE.getName();
    private static final String NIL = "7";

    /** A body that calls itself n times, one inside of the other, and then comes to an end. */
    private static int down(Maker maker, int end) {
        int x = maker.variable(0);
        return maker.caseOf(x, Maker.ZERO, end, maker.call(0, maker.difference(x, maker.number(1))));
    }

    /** "when a call would be made inside of five others" */
    private static void callInsideOfFiveOthers(Expect expect) {
        Maker maker = new Maker();
        maker.kinds.define(1, maker.variable(0));
        int nil = maker.nil();
        int plain = down(maker, nil);
        int calling = down(maker, maker.call(1, nil));
        int trying = down(maker, maker.attempt(maker.call(1, nil), nil));
        for (int others = 0; others <= 6; others++) {
            int x = maker.number(others);
            boolean inside = others <= 4;
            due(expect, others + " around", maker, plain, x, inside ? NIL : CUT_OFF, inside ? others + 1 : 5);
            boolean insideToo = others <= 3;
            due(expect, others + " and one", maker, calling, x, insideToo ? NIL : CUT_OFF, insideToo ? others + 2 : 5);
            due(expect, others + " and one in a try", maker, trying, x,
                    insideToo ? NIL : CUT_OFF, insideToo ? others + 2 : 5);
        }
    }

    /** Calls behind one another, or in the arguments of one, are not inside of each other. */
    private static void callsThatAreNotInside(Expect expect) {
        Maker maker = new Maker();
        SuccessKinds kinds = maker.kinds;
        int x = maker.variable(0);
        int nil = maker.nil();
        kinds.define(1, x);
        int nested = nil;
        for (int times = 0; times < 5; times++) {
            nested = maker.call(1, nested);
        }
        int wanted = nested;
        due(expect, "five in arguments", maker, wanted, nil, NIL, 6);
        due(expect, "five in arguments of the run", maker, wanted, wanted, NIL, 11);
        int call = maker.call(1, nil);
        int beside = maker.pair(maker.pair(call, call), maker.pair(call, call));
        due(expect, "eight beside each other", maker, down(maker, maker.pair(beside, beside)), maker.number(3), "8", 12);
        due(expect, "one too deep", maker, down(maker, maker.pair(beside, beside)), maker.number(4), CUT_OFF, 5);
        kinds.define(0, down(maker, nil));
        int four = maker.call(0, maker.number(4));
        int five = maker.call(0, maker.number(5));
        expect.is("an argument of the run is inside of none", 7, () -> kinds.run(1, four, 0));
        expect.is("with six calls", 6, () -> kinds.calls());
        expect.throwing("an argument of the run is too deep", Expect.STATE, () -> kinds.run(1, five, 0));
        expect.is("with five calls", 5, () -> kinds.calls());
        kinds.define(2, four);
        expect.throwing("the run's own call is one of the five", Expect.STATE, () -> kinds.run(2, nil, 0));
        int three = maker.call(0, maker.number(3));
        kinds.define(2, three);
        expect.is("four inside of it", 7, () -> kinds.run(2, nil, 0));
    }

    /** Cut off comes before failing: the call isn't made. */
    private static void sixthCallWithoutABody(Expect expect) {
        Maker maker = new Maker();
        int nil = maker.nil();
        int body = down(maker, maker.call(2, nil));
        int trying = down(maker, maker.attempt(maker.call(2, nil), nil));
        due(expect, "the fifth call has no body", maker, body, maker.number(3), FAILS, 5);
        due(expect, "the sixth call has no body", maker, body, maker.number(4), CUT_OFF, 5);
        due(expect, "the fifth call has no body, in a try", maker, trying, maker.number(3), NIL, 5);
        due(expect, "the sixth call has no body, in a try", maker, trying, maker.number(4), CUT_OFF, 5);
    }

    /** "a CALL works out its arguments; then it is MADE": so one that fails before is not made. */
    private static void sixthCallWhoseArgumentFails(Expect expect) {
        Maker maker = new Maker();
        int nil = maker.nil();
        int fail = maker.fail();
        maker.kinds.define(1, nil);
        maker.kinds.define(3, nil);
        int one = maker.call(1, fail);
        int two = maker.call(3, nil, fail);
        int four = maker.number(4);
        due(expect, "the sixth one's argument fails", maker, down(maker, one), four, FAILS, 5);
        due(expect, "the sixth one's second argument fails", maker, down(maker, two), four, FAILS, 5);
        due(expect, "and is caught", maker, down(maker, maker.attempt(one, nil)), four, NIL, 5);
        due(expect, "and no argument fails", maker, down(maker, maker.call(3, nil, nil)), four, CUT_OFF, 5);
    }

    /** "when a 201st expression would be worked out", those of x, of y and of all bodies together. */
    private static void stepsOfArgumentsAndBodies(Expect expect) {
        Maker maker = new Maker();
        SuccessKinds kinds = maker.kinds;
        Sized sized = new Sized(maker);
        int nil = sized.ofSteps(1);
        int sixty = sized.ofSteps(60);
        kinds.define(1, sixty);
        int call = maker.call(1, nil);
        // 1 + 2 * (1 + 1 + 60) = 125
        kinds.define(3, maker.let(2, call, call));
        int of14 = sized.ofSteps(14);
        int of15 = sized.ofSteps(15);
        int of16 = sized.ofSteps(16);
        expect.is("60 + 14 + 125 = 199", 7, () -> kinds.run(3, sixty, of14));
        expect.is("60 + 15 + 125 = 200", 7, () -> kinds.run(3, sixty, of15));
        expect.throwing("60 + 16 + 125 = 201", Expect.STATE, () -> kinds.run(3, sixty, of16));
        expect.is("calls() of 201", 3, () -> kinds.calls());
        expect.is("15 + 60 + 125 = 200", 7, () -> kinds.run(3, of15, sixty));
        expect.throwing("16 + 60 + 125 = 201", Expect.STATE, () -> kinds.run(3, of16, sixty));
        int thrice = maker.let(2, call, maker.let(2, call, call));
        // 2 + 3 * 62 = 188, and y is not worked out
        kinds.define(0, thrice);
        int of12 = sized.ofSteps(12);
        int of13 = sized.ofSteps(13);
        expect.is("12 + 188 = 200", 7, () -> kinds.run(0, of12, sixty));
        expect.is("calls() of 200", 4, () -> kinds.calls());
        expect.throwing("13 + 188 = 201", Expect.STATE, () -> kinds.run(0, of13, sixty));
        expect.is("calls() of the other 201", 4, () -> kinds.calls());
    }

    /** Of a CASE and a TRY only what is worked out counts. */
    private static void stepsThatAreNotTaken(Expect expect) {
        Maker maker = new Maker();
        SuccessKinds kinds = maker.kinds;
        Sized sized = new Sized(maker);
        int nil = sized.ofSteps(1);
        kinds.define(1, sized.ofSteps(60));
        int call = maker.call(1, nil);
        int of31 = sized.ofSteps(31);
        int thrice = maker.let(2, call, maker.let(2, call, call));
        // 188, and 3 of a CASE or 2 of a TRY
        int inside = maker.caseOf(nil, Maker.NIL, thrice, of31);
        int outside = maker.caseOf(nil, 511 - Maker.NIL, of31, thrice);
        int attempt = maker.attempt(thrice, of31);
        int of9 = sized.ofSteps(9);
        int of10 = sized.ofSteps(10);
        int of11 = sized.ofSteps(11);
        int of12 = sized.ofSteps(12);
        due(expect, "c of a case, 200", maker, inside, of10, NIL, 4);
        due(expect, "c of a case, 201", maker, inside, of11, CUT_OFF, 4);
        due(expect, "d of a case, 200", maker, outside, of10, NIL, 4);
        due(expect, "d of a case, 201", maker, outside, of11, CUT_OFF, 4);
        due(expect, "a try, 200", maker, attempt, of11, NIL, 4);
        due(expect, "a try, 201", maker, attempt, of12, CUT_OFF, 4);
        due(expect, "c of a case, 199", maker, inside, of9, NIL, 4);
    }

    /** What was worked out counts also if it came to nothing. */
    private static void stepsThatFailed(Expect expect) {
        Maker maker = new Maker();
        SuccessKinds kinds = maker.kinds;
        Sized sized = new Sized(maker);
        int nil = sized.ofSteps(1);
        kinds.define(1, sized.ofSteps(60));
        kinds.define(3, maker.variable(0));
        int call = maker.call(1, nil);
        // 1 + 62 + 1 + 62 + 1 = 127 that fail
        int failing = maker.let(2, call, maker.let(2, call, maker.fail()));
        int caught = maker.attempt(failing, maker.variable(0));
        int last = maker.call(3, sized.ofSteps(15), nil);
        // 1 + (1 + 127 + 1) + (1 + 15 + 1 + 1) = 148
        int body = maker.let(3, caught, last);
        due(expect, "148 + 51 = 199", maker, body, sized.ofSteps(51), NIL, 4);
        due(expect, "148 + 52 = 200", maker, body, sized.ofSteps(52), NIL, 4);
        due(expect, "148 + 53 = 201: the last body is not worked out", maker, body, sized.ofSteps(53), CUT_OFF, 4);
        due(expect, "148 + 54 = 202: the last call is not made", maker, body, sized.ofSteps(54), CUT_OFF, 3);
    }

    /** Whatever the 200th and the 201st are: 189 and 1 more, with an argument of 10 and of 11. */
    private static void lastStep(Expect expect) {
        Maker maker = new Maker();
        SuccessKinds kinds = maker.kinds;
        Sized sized = new Sized(maker);
        int nil = sized.ofSteps(1);
        kinds.define(1, sized.ofSteps(60));
        int call = maker.call(1, nil);
        int of10 = sized.ofSteps(10);
        int of11 = sized.ofSteps(11);
        int[] last = {maker.fail(), maker.variable(3), maker.variable(0), maker.atom(0), maker.number(4)};
        String[] answers = {FAILS, FAILS, NIL, "0", "6"};
        for (int i = 0; i < last.length; i++) {
            // 3 + 3 * 62 = 189, and the last one
            int body = maker.let(2, call, maker.let(2, call, maker.let(2, call, last[i])));
            due(expect, "the 200th", maker, body, of10, answers[i], 4);
            due(expect, "the 201st", maker, body, of11, CUT_OFF, 4);
        }
        // 3 + 3 * 62 + 1 + 1 = 191: the else of a try
        int other = maker.attempt(maker.fail(), nil);
        int body = maker.let(2, call, maker.let(2, call, maker.let(2, call, other)));
        due(expect, "an else as the 200th", maker, body, sized.ofSteps(8), NIL, 4);
        due(expect, "an else as the 201st", maker, body, sized.ofSteps(9), CUT_OFF, 4);
    }

    /** "a 41st pair made": of arguments and bodies together, equal ones too. */
    private static void pairsInAll(Expect expect) {
        Maker maker = new Maker();
        SuccessKinds kinds = maker.kinds;
        Sized sized = new Sized(maker);
        int of20 = sized.ofPairs(20);
        int of19 = sized.ofPairs(19);
        int of21 = sized.ofPairs(21);
        due(expect, "19 + 20 pairs", maker, of19, of20, "8", 1);
        due(expect, "20 + 20 pairs", maker, of20, of20, "8", 1);
        due(expect, "20 + 21 pairs", maker, of20, of21, CUT_OFF, 1);
        due(expect, "21 + 20 pairs", maker, of21, of20, CUT_OFF, 1);
        int of10 = sized.ofPairs(10);
        int of11 = sized.ofPairs(11);
        kinds.define(3, of20);
        expect.is("10 + 10 + 20 pairs", 8, () -> kinds.run(3, of10, of10));
        expect.throwing("11 + 10 + 20 pairs", Expect.STATE, () -> kinds.run(3, of11, of10));
        expect.throwing("10 + 11 + 20 pairs", Expect.STATE, () -> kinds.run(3, of10, of11));
        kinds.define(1, of10);
        int call = maker.call(1, maker.nil());
        int four = maker.let(2, call, maker.let(2, call, maker.let(2, call, call)));
        due(expect, "four times the same ten", maker, four, maker.nil(), "8", 5);
        due(expect, "and one before them", maker, four, sized.ofPairs(1), CUT_OFF, 5);
    }

    /** A pair that nobody keeps was made all the same. */
    private static void pairsThatAreForgotten(Expect expect) {
        Maker maker = new Maker();
        Sized sized = new Sized(maker);
        int seven = sized.ofPairs(7);
        int nil = sized.ofPairs(0);
        int lost = maker.let(2, seven, nil);
        maker.kinds.define(1, maker.let(2, seven, maker.fail()));
        int body = maker.same(lost, maker.attempt(maker.call(1, nil), nil));
        due(expect, "14 pairs forgotten, 26 before", maker, body, sized.ofPairs(26), "1", 2);
        due(expect, "14 pairs forgotten, 27 before", maker, body, sized.ofPairs(27), CUT_OFF, 2);
    }

    /** A pair isn't made if one of its parts fails, nor one that isn't come to. */
    private static void pairsThatAreNotMade(Expect expect) {
        Maker maker = new Maker();
        SuccessKinds kinds = maker.kinds;
        Sized sized = new Sized(maker);
        int three = sized.ofPairs(3);
        int nil = sized.ofPairs(0);
        int fail = maker.fail();
        int second = maker.attempt(maker.pair(fail, three), nil);
        kinds.define(1, maker.attempt(maker.pair(three, fail), second));
        int body = maker.caseOf(maker.call(1, nil), Maker.NIL, sized.ofPairs(10), sized.ofPairs(15));
        due(expect, "3 + 10 pairs, and 27 before", maker, body, sized.ofPairs(27), "8", 2);
        due(expect, "3 + 10 pairs, and 28 before", maker, body, sized.ofPairs(28), CUT_OFF, 2);
    }

    /** "or something fail for the seventh time": of arguments and bodies together. */
    private static void failuresInAll(Expect expect) {
        Maker maker = new Maker();
        SuccessKinds kinds = maker.kinds;
        Sized sized = new Sized(maker);
        int[] of = new int[8];
        for (int failures = 0; failures <= 7; failures++) {
            of[failures] = sized.ofFailures(failures);
        }
        for (int before = 0; before <= 7; before++) {
            for (int then = 0; then <= 7; then++) {
                String answer = before + then <= 6 ? NIL : CUT_OFF;
                due(expect, before + " and " + then + " failures", maker, of[then], of[before],
                        answer, before <= 6 ? 1 : 0);
            }
        }
        kinds.define(3, of[2]);
        expect.is("2, 2 and 2 failures", 7, () -> kinds.run(3, of[2], of[2]));
        expect.throwing("3, 2 and 2 failures", Expect.STATE, () -> kinds.run(3, of[3], of[2]));
        expect.throwing("2, 3 and 2 failures", Expect.STATE, () -> kinds.run(3, of[2], of[3]));
    }

    /** The last one isn't caught: the sixth fails, the seventh cuts off. */
    private static void failuresUncaught(Expect expect) {
        Maker maker = new Maker();
        Sized sized = new Sized(maker);
        int fail = maker.fail();
        for (int before = 0; before <= 6; before++) {
            String answer = before <= 5 ? FAILS : CUT_OFF;
            int failures = sized.ofFailures(before);
            int body = maker.let(2, failures, fail);
            due(expect, before + " caught in the argument and one not", maker, fail, failures, answer, 1);
            due(expect, before + " caught in the body and one not", maker, body, maker.nil(), answer, 1);
        }
    }

    private static final int LAST_CAUSE = 8;

    /** Everything that fails by itself counts once. */
    private static void failuresOfEveryCause(Expect expect) {
        for (int cause = 0; cause <= LAST_CAUSE; cause++) {
            Maker maker = new Maker();
            Sized sized = new Sized(maker);
            int nil = maker.nil();
            int caught = maker.attempt(failing(maker, cause), nil);
            int twice = maker.let(3, caught, caught);
            String what = "cause " + cause;
            // The last cause is a call of a function without a body, which counts as a call.
            int calls = cause == LAST_CAUSE ? 1 : 0;
            due(expect, what + " as the sixth", maker, caught, sized.ofFailures(5), NIL, 1 + calls);
            due(expect, what + " as the seventh", maker, caught, sized.ofFailures(6), CUT_OFF, 1 + calls);
            due(expect, what + " twice, last as the sixth", maker, twice, sized.ofFailures(4), NIL, 1 + 2 * calls);
            due(expect, what + " twice, last as the seventh", maker, twice, sized.ofFailures(5), CUT_OFF, 1 + 2 * calls);
        }
    }

    private static int failing(Maker maker, int cause) {
        int nil = maker.nil();
        int one = maker.number(1);
        return switch (cause) {
            case 0 -> maker.fail();
            case 1 -> maker.variable(1);
            case 2 -> maker.sum(nil, one);
            case 3 -> maker.sum(one, nil);
            case 4 -> maker.difference(nil, one);
            case 5 -> maker.difference(one, nil);
            case 6 -> maker.head(nil);
            case 7 -> maker.tail(one);
            default -> maker.call(1, nil);
        };
    }

    /** "Failing goes up to the next TRY around, through calls.": on its way it is the same failing. */
    private static void failureThatGoesUp(Expect expect) {
        Maker maker = new Maker();
        SuccessKinds kinds = maker.kinds;
        Sized sized = new Sized(maker);
        int nil = maker.nil();
        int x = maker.variable(0);
        kinds.define(1, maker.pair(maker.head(maker.tail(x)), nil));
        kinds.define(2, maker.sum(maker.let(2, maker.call(1, x), nil), nil));
        int through = maker.attempt(maker.pair(nil, maker.same(maker.call(2, nil), nil)), nil);
        due(expect, "through calls, as the sixth", maker, through, sized.ofFailures(5), NIL, 3);
        due(expect, "through calls, as the seventh", maker, through, sized.ofFailures(6), CUT_OFF, 3);
        int next = maker.attempt(maker.attempt(maker.fail(), maker.call(2, nil)), nil);
        due(expect, "the next try around, as the sixth", maker, next, sized.ofFailures(4), NIL, 3);
        due(expect, "the next try around, as the seventh", maker, next, sized.ofFailures(5), CUT_OFF, 3);
    }

    /** "A run is CUT OFF, which no TRY catches": with tries around every call, on both sides. */
    private static void noTryCatches(Expect expect) {
        Maker maker = new Maker();
        SuccessKinds kinds = maker.kinds;
        Sized sized = new Sized(maker);
        int x = maker.variable(0);
        int nil = sized.ofSteps(1);
        int around = maker.attempt(maker.attempt(maker.call(1, x), nil), nil);
        kinds.define(1, maker.attempt(sized.ofPairs(15), nil));
        due(expect, "40 pairs in a try", maker, around, sized.ofPairs(25), "8", 2);
        due(expect, "41 pairs in a try", maker, around, sized.ofPairs(26), CUT_OFF, 2);
        kinds.define(1, maker.attempt(sized.ofFailures(3), nil));
        due(expect, "6 failures in a try", maker, around, sized.ofFailures(3), NIL, 2);
        due(expect, "7 failures in a try", maker, around, sized.ofFailures(4), CUT_OFF, 2);
        kinds.define(2, sized.ofSteps(33));
        int call = maker.call(2, nil);
        kinds.define(1, maker.attempt(maker.let(2, call, maker.let(2, call, call)), nil));
        // 4 of the tries, the call and x, 1 + 2 + 3 * (1 + 1 + 33) = 108 of the called body: 112
        int late = maker.let(3, sized.ofSteps(31), around);
        // 1 + 31 + 112 = 144
        due(expect, "200 steps, the last one in a try", maker, late, sized.ofSteps(56), NIL, 5);
        due(expect, "201 steps, the last one in a try", maker, late, sized.ofSteps(57), CUT_OFF, 5);
        int deep = down(maker, around);
        kinds.define(1, maker.attempt(nil, nil));
        due(expect, "five calls in a try", maker, deep, maker.number(3), NIL, 5);
        due(expect, "six calls in a try", maker, deep, maker.number(4), CUT_OFF, 5);
    }

    /** Nothing is carried from one run to the next: each of the limits can be reached again and again. */
    private static void everyRunBeginsAnew(Expect expect) {
        Maker maker = new Maker();
        Sized sized = new Sized(maker);
        int nil = maker.nil();
        int deep = down(maker, nil);
        maker.kinds.define(1, sized.ofSteps(60));
        int call = maker.call(1, nil);
        int thrice = maker.let(2, call, maker.let(2, call, call));
        for (int again = 0; again < 3; again++) {
            due(expect, "five calls", maker, deep, maker.number(4), NIL, 5);
            due(expect, "six calls", maker, deep, maker.number(5), CUT_OFF, 5);
            due(expect, "40 pairs", maker, sized.ofPairs(20), sized.ofPairs(20), "8", 1);
            due(expect, "41 pairs", maker, sized.ofPairs(20), sized.ofPairs(21), CUT_OFF, 1);
            due(expect, "6 failures", maker, sized.ofFailures(3), sized.ofFailures(3), NIL, 1);
            due(expect, "7 failures", maker, sized.ofFailures(3), sized.ofFailures(4), CUT_OFF, 1);
            due(expect, "200 steps", maker, thrice, sized.ofSteps(12), NIL, 4);
            due(expect, "201 steps", maker, thrice, sized.ofSteps(13), CUT_OFF, 4);
        }
    }

    /** More than 40 different pairs, but not in one run. */
    private static void manyPairsInManyRuns(Expect expect) {
        Maker maker = new Maker();
        SuccessKinds kinds = maker.kinds;
        int x = maker.variable(0);
        kinds.define(0, maker.pair(x, maker.pair(x, x)));
        for (int run = 0; run < 50; run++) {
            int due = run;
            int number = maker.number(due);
            expect.is("two pairs of " + due, 8, () -> kinds.run(0, number, 0));
            expect.is("the last part of them", due, () -> kinds.part(4));
        }
    }

    /** "it fails if the function has no body": each function, by run and by a CALL, until it has one. */
    private static void functionWithoutABody(Expect expect) {
        for (int function = 0; function <= 5; function++) {
            int f = function;
            Maker maker = new Maker();
            SuccessKinds kinds = maker.kinds;
            int nil = maker.nil();
            int one = maker.number(1);
            int caller = (f + 1) % 6;
            int call = maker.call(f, nil, nil);
            kinds.define(caller, call);
            expect.throwing("run of " + f + " without a body", Expect.UNSUPPORTED, () -> kinds.run(f, nil, nil));
            expect.is("its call was made", 1, () -> kinds.calls());
            expect.throwing("call of " + f + " without a body", Expect.UNSUPPORTED, () -> kinds.run(caller, nil, nil));
            expect.is("both calls were made", 2, () -> kinds.calls());
            kinds.define(caller, maker.attempt(call, one));
            expect.is("call of " + f + " without a body in a try", 6, () -> kinds.run(caller, nil, nil));
            kinds.define(f, nil);
            expect.is("run of " + f + " with a body", 7, () -> kinds.run(f, nil, nil));
            expect.is("call of " + f + " with a body", 7, () -> kinds.run(caller, nil, nil));
            expect.is("two calls", 2, () -> kinds.calls());
        }
    }
}
