/** Edges of functions, their parameters and variables. */
public final class FunctionEdgesTest {
    private static final int[] NO_FUNCTIONS = {-1, 6, 7, Integer.MAX_VALUE, Integer.MIN_VALUE};

    public static void main(String[] args) {
        Expect expect = new Expect();
        functionsAreZeroToFive(expect);
        othersAreNoFunctions(expect);
        parametersOfMay(expect);
        parametersOfACall(expect);
        variablesOfParameters(expect);
        variableThatNothingWasGivenTo(expect);
        variableOfACallThatWasGivenElsewhere(expect);
        variableBehindItsLet(expect);
        variablesOfALet(expect);
        expect.finish();
    }

    /** "FUNCTIONS are 0 .. 5": the first and the last are like those between. */
    private static void functionsAreZeroToFive(Expect expect) {
        Maker maker = new Maker();
        SuccessKinds kinds = maker.kinds;
        int nil = maker.nil();
        for (int function = 0; function <= 5; function++) {
            int f = function;
            expect.is("call of " + f, f + 1, () -> kinds.make(10, f, nil, nil, 0));
        }
        for (int function = 0; function <= 5; function++) {
            int f = function;
            expect.is("define " + f, f + 1, () -> kinds.define(f, nil));
            expect.is("may of " + f, 511, () -> kinds.may(f, 0));
            expect.is("gives of " + f, 128, () -> kinds.gives(f));
            expect.is("hopeless of " + f, 0, () -> kinds.hopeless(f));
            expect.is("isHopeless of " + f, 0, () -> kinds.isHopeless(f, nil) ? 1 : 0);
            expect.is("run of " + f, 7, () -> kinds.run(f, nil, nil));
        }
    }

    private static void othersAreNoFunctions(Expect expect) {
        Maker maker = new Maker();
        SuccessKinds kinds = maker.kinds;
        int nil = maker.nil();
        kinds.define(0, nil);
        kinds.define(5, nil);
        for (int f : NO_FUNCTIONS) {
            expect.throwing("call of " + f, Expect.ARGUMENT, () -> kinds.make(10, f, nil, nil, nil));
            expect.throwing("define " + f, Expect.ARGUMENT, () -> kinds.define(f, nil));
            expect.throwing("may of " + f, Expect.ARGUMENT, () -> kinds.may(f, 0));
            expect.throwing("gives of " + f, Expect.ARGUMENT, () -> kinds.gives(f));
            expect.throwing("hopeless of " + f, Expect.ARGUMENT, () -> kinds.hopeless(f));
            expect.throwing("isHopeless of " + f, Expect.ARGUMENT, () -> kinds.isHopeless(f, nil) ? 1 : 0);
            expect.throwing("run of " + f, Expect.ARGUMENT, () -> kinds.run(f, nil, nil));
        }
    }

    /** "i is not one of its parameters": 0 alone of 0 to 2, 0 and 1 of the others. */
    private static void parametersOfMay(Expect expect) {
        Maker maker = new Maker();
        SuccessKinds kinds = maker.kinds;
        int nil = maker.nil();
        for (int function = 0; function <= 5; function++) {
            int f = function;
            kinds.define(f, nil);
            expect.is("may(" + f + ", 0)", 511, () -> kinds.may(f, 0));
            if (f <= 2) {
                expect.throwing("may(" + f + ", 1)", Expect.ARGUMENT, () -> kinds.may(f, 1));
            } else {
                expect.is("may(" + f + ", 1)", 511, () -> kinds.may(f, 1));
            }
            for (int i : new int[] {-1, 2, 3, Integer.MAX_VALUE, Integer.MIN_VALUE}) {
                expect.throwing("may(" + f + ", " + i + ")", Expect.ARGUMENT, () -> kinds.may(f, i));
            }
        }
    }

    /** "10 CALL of function a with b, and with c, if it has two parameters." */
    private static void parametersOfACall(Expect expect) {
        for (int function = 0; function <= 5; function++) {
            int f = function;
            Maker maker = new Maker();
            SuccessKinds kinds = maker.kinds;
            int nil = maker.nil();
            for (int none : new int[] {-1, 1, Integer.MAX_VALUE}) {
                expect.throwing("no b for " + f, Expect.ARGUMENT, () -> kinds.make(10, f, none, nil, nil));
            }
            if (f >= 3) {
                expect.throwing("no c for " + f, Expect.ARGUMENT, () -> kinds.make(10, f, nil, 1, nil));
                expect.throwing("c of -1 for " + f, Expect.ARGUMENT, () -> kinds.make(10, f, nil, -1, nil));
                expect.is("b and c for " + f, 1, () -> kinds.make(10, f, nil, nil, -1));
            } else {
                expect.is("b alone for " + f, 1, () -> kinds.make(10, f, nil, -1, -1));
            }
        }
    }

    /** "0 to 2 have one PARAMETER, variable 0, the others two, VARIABLES 0 and 1" */
    private static void variablesOfParameters(Expect expect) {
        Maker maker = new Maker();
        SuccessKinds kinds = maker.kinds;
        int first = maker.variable(0);
        int second = maker.variable(1);
        int ten = maker.number(10);
        int twenty = maker.number(20);
        for (int function = 0; function <= 5; function++) {
            int f = function;
            kinds.define(f, first);
            expect.is("variable 0 of " + f, 6, () -> kinds.run(f, ten, twenty));
            expect.is("variable 0 of " + f + " is x", 10, () -> kinds.part(0));
            kinds.define(f, second);
            if (f <= 2) {
                expect.throwing("variable 1 of " + f, Expect.UNSUPPORTED, () -> kinds.run(f, ten, twenty));
                expect.is("gives of variable 1 in " + f, 0, () -> kinds.gives(f));
            } else {
                expect.is("variable 1 of " + f, 6, () -> kinds.run(f, ten, twenty));
                expect.is("variable 1 of " + f + " is y", 20, () -> kinds.part(0));
                expect.is("gives of variable 1 in " + f, 511, () -> kinds.gives(f));
            }
        }
    }

    /** "A variable that nothing was given to FAILS.": it can be caught, and in knowledge its set is empty. */
    private static void variableThatNothingWasGivenTo(Expect expect) {
        Maker maker = new Maker();
        SuccessKinds kinds = maker.kinds;
        int nil = maker.nil();
        int one = maker.number(1);
        for (int variable = 0; variable <= 3; variable++) {
            int body = maker.variable(variable);
            int caught = maker.attempt(body, one);
            for (int function : new int[] {2, 3}) {
                boolean given = variable == 0 || variable == 1 && function == 3;
                String what = "variable " + variable + " of function " + function;
                kinds.define(function, body);
                expect.compare(what, given ? "7" : Expect.UNSUPPORTED.getName(),
                        Expect.answerOf(() -> kinds.run(function, nil, nil)));
                expect.is(what + ": gives", given ? 511 : 0, () -> kinds.gives(function));
                expect.is(what + ": may", given ? 511 : 0, () -> kinds.may(function, 0));
                kinds.define(function, caught);
                expect.is(what + " in a try", given ? 7 : 6, () -> kinds.run(function, nil, nil));
            }
            kinds.define(4, nil);
            expect.throwing("as x of a run", Expect.UNSUPPORTED, () -> kinds.run(4, body, nil));
            expect.throwing("as y of a run", Expect.UNSUPPORTED, () -> kinds.run(4, nil, body));
            expect.is("caught as x of a run", 7, () -> kinds.run(4, caught, nil));
        }
    }

    /** "the function's body is worked out with the parameters, in which all other variables have nothing" */
    private static void variableOfACallThatWasGivenElsewhere(Expect expect) {
        Maker maker = new Maker();
        SuccessKinds kinds = maker.kinds;
        int nil = maker.nil();
        for (int variable = 1; variable <= 3; variable++) {
            int looked = maker.variable(variable);
            kinds.define(0, looked);
            int within = maker.let(2, nil, maker.let(3, nil, maker.call(0, nil)));
            kinds.define(3, within);
            String what = "variable " + variable + " of the caller";
            expect.throwing(what, Expect.UNSUPPORTED, () -> kinds.run(3, nil, nil));
            expect.is(what + ": gives", 0, () -> kinds.gives(3));
            kinds.define(3, maker.let(2, nil, maker.let(3, nil, looked)));
            expect.is(what + " by the caller itself", 7, () -> kinds.run(3, nil, nil));
            expect.is(what + " by the caller itself: gives", variable == 1 ? 511 : 128, () -> kinds.gives(3));
        }
    }

    /** A LET gives its variable something in c alone: not in b, not behind it, not behind a failure. */
    private static void variableBehindItsLet(Expect expect) {
        for (int variable = 2; variable <= 3; variable++) {
            Maker maker = new Maker();
            int looked = maker.variable(variable);
            int nil = maker.nil();
            int one = maker.number(1);
            int fail = maker.fail();
            String what = "variable " + variable;
            one(expect, what + " in c", maker, maker.let(variable, one, looked), "6", 64);
            one(expect, what + " in b", maker, maker.let(variable, looked, one), Expect.UNSUPPORTED.getName(), 0);
            int behind = maker.pair(maker.let(variable, one, nil), looked);
            one(expect, what + " behind", maker, behind, Expect.UNSUPPORTED.getName(), 0);
            int behindFailure = maker.attempt(maker.let(variable, one, fail), looked);
            one(expect, what + " behind a failure", maker, behindFailure, Expect.UNSUPPORTED.getName(), 0);
            int other = maker.let(5 - variable, one, looked);
            one(expect, what + " in the other's c", maker, other, Expect.UNSUPPORTED.getName(), 0);
            int inner = maker.let(variable, one, maker.tail(maker.pair(maker.let(variable, nil, looked), looked)));
            maker.kinds.define(0, inner);
            expect.is(what + " is the outer one again", 6, () -> maker.kinds.run(0, nil, 0));
            int again = maker.let(variable, one, maker.attempt(maker.let(variable, nil, fail), looked));
            one(expect, what + " is the outer one again behind a failure", maker, again, "6", 64);
        }
    }

    private static void one(Expect expect, String what, Maker maker, int body, String due, int gives) {
        int argument = maker.nil();
        maker.kinds.define(0, body);
        expect.compare(what, due, Expect.answerOf(() -> maker.kinds.run(0, argument, 0)));
        expect.is(what + ": gives", gives, () -> maker.kinds.gives(0));
    }

    /** "of a LET the variable must be 2 or 3", and of a VARIABLE 0 to 3. */
    private static void variablesOfALet(Expect expect) {
        SuccessKinds kinds = new SuccessKinds();
        kinds.make(3, 0, 0, 0, 0);
        for (int wrong : new int[] {Integer.MIN_VALUE, -1, 0, 1, 4, 5, Integer.MAX_VALUE}) {
            expect.throwing("let " + wrong, Expect.ARGUMENT, () -> kinds.make(11, wrong, 0, 0, 0));
        }
        for (int wrong : new int[] {Integer.MIN_VALUE, -1, 4, 5, Integer.MAX_VALUE}) {
            expect.throwing("variable " + wrong, Expect.ARGUMENT, () -> kinds.make(0, wrong, 0, 0, 0));
            expect.throwing("atom " + wrong, Expect.ARGUMENT, () -> kinds.make(1, wrong, 0, 0, 0));
        }
        expect.is("let 2", 1, () -> kinds.make(11, 2, 0, 0, 0));
        expect.is("let 3", 2, () -> kinds.make(11, 3, 0, 0, 0));
        for (int right = 0; right <= 3; right++) {
            int a = right;
            expect.is("variable " + a, 3 + 2 * a, () -> kinds.make(0, a, 0, 0, 0));
            expect.is("atom " + a, 4 + 2 * a, () -> kinds.make(1, a, 0, 0, 0));
        }
    }
}
