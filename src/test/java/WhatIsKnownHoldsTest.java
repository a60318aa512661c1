import java.util.Random;

/**
 * The document's first line: "the kinds of arguments with which it may come to an end, and the
 * kinds of what it may give then; calls that can never succeed". No run may contradict them.
 */
public final class WhatIsKnownHoldsTest {
    private static final int PROGRAMS = 4000;
    private static final int RUNS = 30;
    private static final int EXPRESSIONS = 60;
    /** It only gives what it is called with, so that a run of it tells the kind of an argument. */
    private static final int MIRROR = 2;

    private int cameToAnEnd;
    private int hopelessCalls;
    private int narrow;

    public static void main(String[] args) {
        Expect expect = new Expect();
        WhatIsKnownHoldsTest test = new WhatIsKnownHoldsTest();
        for (int seed = 0; seed < PROGRAMS; seed++) {
            test.oneProgram(expect, seed);
        }
        expect.is("enough runs came to an end", true, test.cameToAnEnd > 5000);
        expect.is("enough calls were hopeless", true, test.hopelessCalls > 500);
        expect.is("enough sets were not ALL", true, test.narrow > 1000);
        expect.finish();
    }

    private void oneProgram(Expect expect, int seed) {
        Random random = new Random(seed);
        SuccessKinds kinds = new SuccessKinds();
        int made = 0;
        for (int tries = 0; tries < 150 && made < EXPRESSIONS; tries++) {
            made += anyMake(random, kinds, made) ? 1 : 0;
        }
        int parameter = kinds.make(0, 0, 0, 0, 0);
        for (int function = 0; function < 6; function++) {
            kinds.define(function, function == MIRROR ? parameter : made / 3 + random.nextInt(made - made / 3));
        }
        for (int run = 0; run < RUNS; run++) {
            oneRun(expect, "seed " + seed + ": ", kinds, random.nextInt(6), random.nextInt(made), random.nextInt(made));
        }
        for (int expression = 0; expression < made; expression++) {
            hopelessCall(expect, "seed " + seed + ": ", kinds, random.nextInt(6), expression);
        }
    }

    private static boolean anyMake(Random random, SuccessKinds kinds, int made) {
        int sort = made < 12 ? random.nextInt(4) : 4 + random.nextInt(11);
        int[] m = new int[4];
        for (int i = 0; i < 4; i++) {
            m[i] = random.nextInt(Math.max(made, 1));
        }
        switch (sort) {
            case 0, 1 -> m[0] = random.nextInt(4);
            case 2 -> m[0] = new int[] {-1, 0, 1, Integer.MIN_VALUE, Integer.MAX_VALUE}[random.nextInt(5)];
            case 9 -> m[1] = random.nextInt(512);
            case 10 -> m[0] = random.nextInt(6);
            case 11 -> m[0] = 2 + random.nextInt(2);
            default -> { }
        }
        return Character.isDigit(Expect.answerOf(() -> kinds.make(sort, m[0], m[1], m[2], m[3])).charAt(0));
    }

    private void oneRun(Expect expect, String where, SuccessKinds kinds, int function, int x, int y) {
        String call = where + "run(" + function + ", " + x + ", " + y + ")";
        int kind = kindOrNone(() -> kinds.run(function, x, y));
        if (kind < 0) {
            return;
        }
        cameToAnEnd++;
        narrow += kinds.gives(function) != Maker.ALL ? 1 : 0;
        expect.is(call + ": its kind is in GIVES", true, isIn(kind, kinds.gives(function)));
        // Alone an argument takes less of what a run may use, so it comes to an end again.
        int first = kinds.run(MIRROR, x, 0);
        expect.is(call + ": x is in MAY", true, isIn(first, kinds.may(function, 0)));
        if (function >= 3) {
            int second = kinds.run(MIRROR, y, 0);
            expect.is(call + ": y is in MAY", true, isIn(second, kinds.may(function, 1)));
        }
    }

    /** A hopeless call fails or is cut off whatever the function's parameters are. */
    private void hopelessCall(Expect expect, String where, SuccessKinds kinds, int function, int expression) {
        if (!kinds.isHopeless(function, expression)) {
            return;
        }
        hopelessCalls++;
        int kind = kindOrNone(() -> kinds.run(MIRROR, expression, 0));
        expect.is(where + "hopeless call " + expression + " comes to no end", true, kind < 0);
    }

    private static int kindOrNone(Expect.Call run) {
        String answer = Expect.answerOf(run);
        return Character.isDigit(answer.charAt(0)) ? Integer.parseInt(answer) : -1;
    }

    private static boolean isIn(int kind, int set) {
        return (set >> kind & 1) == 1;
    }
}
