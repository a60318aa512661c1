import java.util.ArrayList;
import java.util.List;

/**
 * "What throws changes nothing.": of two objects with the same past, one is also called so that it
 * throws; behind that both answer all questions alike, and go on alike.
 */
public final class ThrowingChangesNothingTest {
    private static final int X = 0;
    private static final int NIL = 1;
    private static final int FAIL = 2;
    private static final int PAIR = 3;
    private static final int NUMBER = 4;
    private static final int DEEPEST = 9;
    private static final int SEVEN = 10;
    /** How many expressions a prepared object has, so this is no expression. */
    private static final int NEXT = 17;

    public static void main(String[] args) {
        Expect expect = new Expect();
        preparedAsTold(expect);
        make(expect);
        makeTooGreat(expect);
        makeWhenThereAreNinety(expect);
        define(expect);
        questions(expect);
        runThatIsRefused(expect);
        runThatFails(expect);
        runThatIsCutOff(expect);
        part(expect);
        onANewObject(expect);
        expect.finish();
    }

    private interface Wrong {
        long on(SuccessKinds kinds);
    }

    /** Bodies for functions 0, 1, 3 and 4, a hopeless call in the first, and a good run behind it. */
    private static SuccessKinds prepared() {
        Maker maker = new Maker();
        int x = maker.variable(0);
        int nil = maker.nil();
        maker.fail();
        int pair = maker.pair(nil, nil);
        int number = maker.number(5);
        int deep = x;
        for (int depth = 1; depth <= 5; depth++) {
            deep = maker.head(deep);
        }
        int seven = maker.pair(pair, pair);
        int hopeless = maker.call(2, x);
        int body = maker.attempt(hopeless, x);
        int shorter = maker.tail(x);
        int longer = maker.pair(maker.pair(x, number), seven);
        maker.kinds.define(0, body);
        maker.kinds.define(1, shorter);
        maker.kinds.define(3, longer);
        maker.kinds.define(4, maker.call(4, x, x));
        maker.kinds.run(3, nil, nil);
        return maker.kinds;
    }

    private static void preparedAsTold(Expect expect) {
        SuccessKinds kinds = prepared();
        expect.throwing("the next expression", Expect.ARGUMENT, () -> kinds.isHopeless(0, NEXT) ? 1 : 0);
        expect.is("a hopeless call", 1, () -> kinds.hopeless(0));
        expect.is("calls of the run", 1, () -> kinds.calls());
        expect.is("the last part of the run", 7, () -> kinds.part(10));
        expect.throwing("no part behind it", Expect.INDEX, () -> kinds.part(11));
        expect.is("a next expression", NEXT, () -> kinds.make(3, 0, 0, 0, 0));
    }

    /** All that can be asked of an object; the number of calls is left out if it may differ. */
    private static List<String> answers(SuccessKinds kinds, int next, boolean callsToo) {
        List<String> answers = new ArrayList<>();
        for (int function = 0; function <= 5; function++) {
            int f = function;
            add(answers, "gives(" + f + ")", () -> kinds.gives(f));
            add(answers, "may(" + f + ", 0)", () -> kinds.may(f, 0));
            add(answers, "may(" + f + ", 1)", () -> kinds.may(f, 1));
            add(answers, "hopeless(" + f + ")", () -> kinds.hopeless(f));
        }
        for (int expression = 0; expression <= next; expression++) {
            int e = expression;
            add(answers, "isHopeless(0, " + e + ")", () -> kinds.isHopeless(0, e) ? 1 : 0);
            add(answers, "isHopeless(4, " + e + ")", () -> kinds.isHopeless(4, e) ? 1 : 0);
        }
        for (int i = 0; i <= 60; i++) {
            int place = i;
            add(answers, "part(" + i + ")", () -> kinds.part(place));
        }
        if (callsToo) {
            add(answers, "calls()", () -> kinds.calls());
        }
        return answers;
    }

    /** What comes next: runs of all functions, and what is made and defined. */
    private static List<String> later(SuccessKinds kinds, int next) {
        List<String> answers = new ArrayList<>();
        for (int function = 0; function <= 5; function++) {
            int f = function;
            for (int x : new int[] {X, NIL, FAIL, PAIR, NUMBER, SEVEN, next}) {
                add(answers, "run(" + f + ", " + x + ", 1)", () -> kinds.run(f, x, NIL));
                add(answers, "calls()", () -> kinds.calls());
                add(answers, "part(2)", () -> kinds.part(2));
            }
        }
        add(answers, "define(5, next)", () -> kinds.define(5, next));
        add(answers, "make a pair", () -> kinds.make(6, X, NIL, 0, 0));
        add(answers, "define(5, next)", () -> kinds.define(5, next));
        add(answers, "gives(5)", () -> kinds.gives(5));
        add(answers, "run(5, 1, 1)", () -> kinds.run(5, NIL, NIL));
        add(answers, "make a head of it", () -> kinds.make(7, next, 0, 0, 0));
        add(answers, "define(0, 1)", () -> kinds.define(0, NIL));
        return answers;
    }

    private static void add(List<String> answers, String what, Expect.Call call) {
        answers.add(what + " answers " + Expect.answerOf(call));
    }

    /** Compares the first answers that differ, so that not all of them are printed. */
    private static void alike(Expect expect, String what, List<String> due, List<String> got) {
        int first = 0;
        while (first < due.size() - 1 && due.get(first).equals(got.get(first))) {
            first++;
        }
        expect.compare(what, due.get(first), got.get(first));
    }

    private static void unchanged(Expect expect, String what, Class<? extends RuntimeException> due, Wrong wrong) {
        twins(expect, what, due, wrong, true);
    }

    private static void unchangedButForCalls(Expect expect, String what, Class<? extends RuntimeException> due,
            Wrong wrong) {
        twins(expect, what, due, wrong, false);
    }

    private static void twins(Expect expect, String what, Class<? extends RuntimeException> due, Wrong wrong,
            boolean callsToo) {
        SuccessKinds plain = prepared();
        SuccessKinds called = prepared();
        for (int again = 0; again < 2; again++) {
            expect.throwing(what, due, () -> wrong.on(called));
        }
        alike(expect, what + ": behind it", answers(plain, NEXT, callsToo), answers(called, NEXT, callsToo));
        alike(expect, what + ": later", later(plain, NEXT), later(called, NEXT));
    }

    private static void make(Expect expect) {
        int[][] wrongs = {
            {-1, 0, 0, 0, 0}, {15, 0, 0, 0, 0},
            {0, 4, 0, 0, 0}, {0, -1, 0, 0, 0}, {1, 4, 0, 0, 0}, {1, -1, 0, 0, 0},
            {4, NEXT, 0, 0, 0}, {5, 0, NEXT, 0, 0}, {6, 0, -1, 0, 0}, {7, NEXT, 0, 0, 0},
            {8, -1, 0, 0, 0}, {9, 0, 512, 0, 0}, {9, 0, -1, 0, 0}, {9, 0, 0, 0, NEXT},
            {9, 0, 0, NEXT, 0}, {10, 6, 0, 0, 0}, {10, -1, 0, 0, 0}, {10, 0, NEXT, 0, 0},
            {10, 3, 0, NEXT, 0}, {11, 1, 0, 0, 0}, {11, 4, 0, 0, 0}, {11, 2, 0, NEXT, 0},
            {12, 0, NEXT, 0, 0}, {13, NEXT, 0, 0, 0},
            {7, DEEPEST, 0, 0, 0}, {6, DEEPEST, NIL, 0, 0}, {9, NIL, 511, NIL, DEEPEST}};
        for (int[] w : wrongs) {
            String what = "make" + java.util.Arrays.toString(w);
            unchanged(expect, what, Expect.ARGUMENT, kinds -> kinds.make(w[0], w[1], w[2], w[3], w[4]));
        }
    }

    /** What would be of size 31 + 31 + 1 is no expression, and those that it is made of are as they were. */
    private static void makeTooGreat(Expect expect) {
        SuccessKinds plain = prepared();
        SuccessKinds called = prepared();
        for (SuccessKinds kinds : new SuccessKinds[] {plain, called}) {
            kinds.make(6, SEVEN, SEVEN, 0, 0);
            kinds.make(6, NEXT, NEXT, 0, 0);
        }
        int next = NEXT + 2;
        expect.throwing("too great", Expect.ARGUMENT, () -> called.make(6, next - 1, next - 1, 0, 0));
        expect.throwing("too great again", Expect.ARGUMENT, () -> called.make(9, next - 1, 0, next - 1, 0));
        alike(expect, "too great: behind it", answers(plain, next, true), answers(called, next, true));
        alike(expect, "too great: later", later(plain, next), later(called, next));
    }

    /** Fills up to 90, where both exceptions of make can be had. */
    private static void makeWhenThereAreNinety(Expect expect) {
        SuccessKinds plain = prepared();
        SuccessKinds called = prepared();
        for (SuccessKinds kinds : new SuccessKinds[] {plain, called}) {
            for (int made = NEXT; made < 90; made++) {
                kinds.make(2, made, 0, 0, 0);
            }
        }
        expect.throwing("the 91st", Expect.STATE, () -> called.make(3, 0, 0, 0, 0));
        expect.throwing("the 91st, a call", Expect.STATE, () -> called.make(10, 2, X, 0, 0));
        expect.throwing("the 91st, wrong", Expect.ARGUMENT, () -> called.make(1, 4, 0, 0, 0));
        alike(expect, "the 91st: behind it", answers(plain, 90, true), answers(called, 90, true));
        expect.throwing("the 91st is not there", Expect.ARGUMENT, () -> called.define(5, 90));
        expect.throwing("the 91st again", Expect.STATE, () -> called.make(3, 0, 0, 0, 0));
        expect.is("the 90th is there", 5, () -> called.define(5, 89));
        expect.is("and is what it was", 6, () -> called.run(5, NIL, NIL));
        expect.is("its number", 89, () -> called.part(0));
    }

    private static void define(Expect expect) {
        unchanged(expect, "define(-1, 1)", Expect.ARGUMENT, kinds -> kinds.define(-1, NIL));
        unchanged(expect, "define(6, 1)", Expect.ARGUMENT, kinds -> kinds.define(6, NIL));
        for (int function = 0; function <= 5; function++) {
            int f = function;
            unchanged(expect, "define(" + f + ", -1)", Expect.ARGUMENT, kinds -> kinds.define(f, -1));
            unchanged(expect, "define(" + f + ", next)", Expect.ARGUMENT, kinds -> kinds.define(f, NEXT));
        }
    }

    private static void questions(Expect expect) {
        for (int wrong : new int[] {-1, 6}) {
            unchanged(expect, "may(" + wrong + ", 0)", Expect.ARGUMENT, kinds -> kinds.may(wrong, 0));
            unchanged(expect, "gives(" + wrong + ")", Expect.ARGUMENT, kinds -> kinds.gives(wrong));
            unchanged(expect, "hopeless(" + wrong + ")", Expect.ARGUMENT, kinds -> kinds.hopeless(wrong));
            unchanged(expect, "isHopeless(" + wrong + ", 1)", Expect.ARGUMENT,
                    kinds -> kinds.isHopeless(wrong, NIL) ? 1 : 0);
        }
        unchanged(expect, "may(0, 1)", Expect.ARGUMENT, kinds -> kinds.may(0, 1));
        unchanged(expect, "may(3, 2)", Expect.ARGUMENT, kinds -> kinds.may(3, 2));
        unchanged(expect, "may(3, -1)", Expect.ARGUMENT, kinds -> kinds.may(3, -1));
        unchanged(expect, "isHopeless(0, -1)", Expect.ARGUMENT, kinds -> kinds.isHopeless(0, -1) ? 1 : 0);
        unchanged(expect, "isHopeless(0, next)", Expect.ARGUMENT, kinds -> kinds.isHopeless(0, NEXT) ? 1 : 0);
    }

    /** A run that is refused was none: also calls() is as before. */
    private static void runThatIsRefused(Expect expect) {
        unchanged(expect, "run(-1, 1, 1)", Expect.ARGUMENT, kinds -> kinds.run(-1, NIL, NIL));
        unchanged(expect, "run(6, 1, 1)", Expect.ARGUMENT, kinds -> kinds.run(6, NIL, NIL));
        for (int function = 0; function <= 5; function++) {
            int f = function;
            unchanged(expect, "run(" + f + ", -1, 1)", Expect.ARGUMENT, kinds -> kinds.run(f, -1, NIL));
            unchanged(expect, "run(" + f + ", next, 1)", Expect.ARGUMENT, kinds -> kinds.run(f, NEXT, NIL));
            if (f >= 3) {
                unchanged(expect, "run(" + f + ", 1, -1)", Expect.ARGUMENT, kinds -> kinds.run(f, NIL, -1));
                unchanged(expect, "run(" + f + ", 1, next)", Expect.ARGUMENT, kinds -> kinds.run(f, NIL, NEXT));
            }
        }
    }

    /** A run that fails or is cut off changes calls() alone, of which promise 10 says so. */
    private static void runThatFails(Expect expect) {
        Class<UnsupportedOperationException> due = Expect.UNSUPPORTED;
        unchangedButForCalls(expect, "x fails", due, kinds -> kinds.run(0, FAIL, NIL));
        unchangedButForCalls(expect, "x is a variable", due, kinds -> kinds.run(3, X, NIL));
        unchangedButForCalls(expect, "y fails", due, kinds -> kinds.run(3, NIL, FAIL));
        unchangedButForCalls(expect, "no body", due, kinds -> kinds.run(2, NIL, NIL));
        unchangedButForCalls(expect, "tail of a number", due, kinds -> kinds.run(1, NUMBER, NIL));
        SuccessKinds kinds = prepared();
        expect.is("calls() before", 1, () -> kinds.calls());
        expect.throwing("x fails", due, () -> kinds.run(0, FAIL, NIL));
        expect.is("calls() behind", 0, () -> kinds.calls());
    }

    private static void runThatIsCutOff(Expect expect) {
        Wrong cutOff = kinds -> kinds.run(4, NIL, NIL);
        unchangedButForCalls(expect, "too deep", Expect.STATE, cutOff);
        SuccessKinds kinds = prepared();
        expect.is("calls() before", 1, () -> kinds.calls());
        expect.throwing("too deep", Expect.STATE, () -> cutOff.on(kinds));
        expect.is("calls() behind", 5, () -> kinds.calls());
        expect.is("part(0) is as before", 8, () -> kinds.part(0));
        expect.is("part(3) is as before", 5, () -> kinds.part(3));
        expect.throwing("part(11) is as before", Expect.INDEX, () -> kinds.part(11));
    }

    private static void part(Expect expect) {
        for (int wrong : new int[] {-1, 11, 59, 60, Integer.MAX_VALUE, Integer.MIN_VALUE}) {
            unchanged(expect, "part(" + wrong + ")", Expect.INDEX, kinds -> kinds.part(wrong));
        }
    }

    /** All that can throw on a new object, and then it is still as a new one. */
    private static void onANewObject(Expect expect) {
        SuccessKinds called = new SuccessKinds();
        expect.throwing("make", Expect.ARGUMENT, () -> called.make(7, 0, 0, 0, 0));
        expect.throwing("make", Expect.ARGUMENT, () -> called.make(15, 0, 0, 0, 0));
        expect.throwing("define", Expect.ARGUMENT, () -> called.define(0, 0));
        expect.throwing("may", Expect.ARGUMENT, () -> called.may(2, 1));
        expect.throwing("gives", Expect.ARGUMENT, () -> called.gives(6));
        expect.throwing("hopeless", Expect.ARGUMENT, () -> called.hopeless(6));
        expect.throwing("isHopeless", Expect.ARGUMENT, () -> called.isHopeless(0, 0) ? 1 : 0);
        expect.throwing("run", Expect.ARGUMENT, () -> called.run(0, 0, 0));
        expect.throwing("part", Expect.INDEX, () -> called.part(0));
        alike(expect, "a new object", answers(new SuccessKinds(), 2, true), answers(called, 2, true));
        expect.is("its first expression", 0, () -> called.make(3, 0, 0, 0, 0));
        expect.is("its first body", 1, () -> called.define(0, 0));
    }
}
