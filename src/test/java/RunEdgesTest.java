/** Edges of run: which of x and y are looked at, and worked out. */
public final class RunEdgesTest {
    private static final int[] NO_EXPRESSIONS = {-1, 3, 4, 89, 90, Integer.MAX_VALUE, Integer.MIN_VALUE};

    public static void main(String[] args) {
        Expect expect = new Expect();
        xIsLookedAt(expect);
        yIsLookedAt(expect);
        yIsWorkedOut(expect);
        lastExpressionMade(expect);
        wrongBeforeAnythingRuns(expect);
        expect.finish();
    }

    /** Expressions 0, 1 and 2 are nil, a variable and FAIL; all functions have nil for a body. */
    private static SuccessKinds prepared() {
        Maker maker = new Maker();
        int nil = maker.nil();
        maker.variable(0);
        maker.fail();
        for (int function = 0; function <= 5; function++) {
            maker.kinds.define(function, nil);
        }
        return maker.kinds;
    }

    private static void xIsLookedAt(Expect expect) {
        SuccessKinds kinds = prepared();
        for (int function = 0; function <= 5; function++) {
            int f = function;
            for (int x : NO_EXPRESSIONS) {
                expect.throwing("run(" + f + ", " + x + ", 0)", Expect.ARGUMENT, () -> kinds.run(f, x, 0));
            }
            expect.is("run(" + f + ", 0, 0)", 7, () -> kinds.run(f, 0, 0));
        }
    }

    /** "y is looked at only if it has two parameters" */
    private static void yIsLookedAt(Expect expect) {
        SuccessKinds kinds = prepared();
        for (int function = 0; function <= 5; function++) {
            int f = function;
            for (int y : NO_EXPRESSIONS) {
                if (f <= 2) {
                    expect.is("run(" + f + ", 0, " + y + ")", 7, () -> kinds.run(f, 0, y));
                } else {
                    expect.throwing("run(" + f + ", 0, " + y + ")", Expect.ARGUMENT, () -> kinds.run(f, 0, y));
                }
            }
            expect.is("run(" + f + ", 0, 0)", 7, () -> kinds.run(f, 0, 0));
        }
    }

    /** "the second one only for a function with two parameters": one that fails shows it. */
    private static void yIsWorkedOut(Expect expect) {
        SuccessKinds kinds = prepared();
        for (int function = 0; function <= 5; function++) {
            int f = function;
            for (int failing = 1; failing <= 2; failing++) {
                int wrong = failing;
                expect.throwing("x of " + f + " fails", Expect.UNSUPPORTED, () -> kinds.run(f, wrong, 0));
                if (f <= 2) {
                    expect.is("y of " + f + " would fail", 7, () -> kinds.run(f, 0, wrong));
                } else {
                    expect.throwing("y of " + f + " fails", Expect.UNSUPPORTED, () -> kinds.run(f, 0, wrong));
                }
            }
        }
    }

    private static void lastExpressionMade(Expect expect) {
        SuccessKinds kinds = prepared();
        expect.throwing("x is not made yet", Expect.ARGUMENT, () -> kinds.run(2, 3, 0));
        expect.throwing("y is not made yet", Expect.ARGUMENT, () -> kinds.run(3, 0, 3));
        expect.is("now it is", 3, () -> kinds.make(3, 0, 0, 0, 0));
        expect.is("x is made", 7, () -> kinds.run(2, 3, 4));
        expect.is("y is made", 7, () -> kinds.run(3, 0, 3));
    }

    /** Wrong arguments are refused before x, which would fail, is worked out. */
    private static void wrongBeforeAnythingRuns(Expect expect) {
        SuccessKinds kinds = prepared();
        expect.is("a good run", 7, () -> kinds.run(0, 0, 0));
        expect.throwing("x fails, y is none", Expect.ARGUMENT, () -> kinds.run(5, 2, 3));
        expect.is("calls() of the run before", 1, () -> kinds.calls());
        expect.throwing("no function, x fails", Expect.ARGUMENT, () -> kinds.run(6, 2, 0));
        expect.throwing("no function, no x", Expect.ARGUMENT, () -> kinds.run(-1, 3, 3));
        expect.is("calls() of the run before, still", 1, () -> kinds.calls());
    }
}
