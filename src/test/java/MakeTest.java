/** Promise 2: make. */
public final class MakeTest {
    private static final int FAR = Integer.MAX_VALUE;
    private static final int NEAR = Integer.MIN_VALUE;

    public static void main(String[] args) {
        Expect expect = new Expect();
        numbersInOrder(expect);
        noSuchSort(expect);
        wrongDetails(expect);
        wrongParts(expect);
        notNeededIsNotLookedAt(expect);
        depthLimit(expect);
        sizeLimit(expect);
        atMostNinety(expect);
        expect.finish();
    }

    private static void refused(Expect expect, SuccessKinds kinds, int... call) {
        String what = "make" + java.util.Arrays.toString(call);
        expect.throwing(what, Expect.ARGUMENT, () -> kinds.make(call[0], call[1], call[2], call[3], call[4]));
    }

    private static void made(Expect expect, SuccessKinds kinds, int due, int... call) {
        String what = "make" + java.util.Arrays.toString(call);
        expect.is(what, due, () -> kinds.make(call[0], call[1], call[2], call[3], call[4]));
    }

    private static void numbersInOrder(Expect expect) {
        SuccessKinds kinds = new SuccessKinds();
        made(expect, kinds, 0, 3, 0, 0, 0, 0);
        refused(expect, kinds, 7, 1, 0, 0, 0);
        made(expect, kinds, 1, 7, 0, 0, 0, 0);
        made(expect, kinds, 2, 7, 0, 0, 0, 0);
        made(expect, kinds, 3, 6, 1, 2, 0, 0);
    }

    private static void noSuchSort(Expect expect) {
        SuccessKinds kinds = new SuccessKinds();
        made(expect, kinds, 0, 3, 0, 0, 0, 0);
        for (int sort : new int[] {-1, 15, 16, FAR, NEAR}) {
            refused(expect, kinds, sort, 0, 0, 0, 0);
        }
        made(expect, kinds, 1, 14, 0, 0, 0, 0);
    }

    private static void wrongDetails(Expect expect) {
        SuccessKinds kinds = new SuccessKinds();
        made(expect, kinds, 0, 3, 0, 0, 0, 0);
        for (int wrong : new int[] {-1, 4, FAR, NEAR}) {
            refused(expect, kinds, 0, wrong, 0, 0, 0);
            refused(expect, kinds, 1, wrong, 0, 0, 0);
            refused(expect, kinds, 11, wrong, 0, 0, 0);
        }
        refused(expect, kinds, 11, 0, 0, 0, 0);
        refused(expect, kinds, 11, 1, 0, 0, 0);
        for (int wrong : new int[] {-1, 512, FAR, NEAR}) {
            refused(expect, kinds, 9, 0, wrong, 0, 0);
        }
        for (int wrong : new int[] {-1, 6, FAR, NEAR}) {
            refused(expect, kinds, 10, wrong, 0, 0, 0);
        }
        int next = 1;
        for (int right = 0; right < 4; right++) {
            made(expect, kinds, next++, 0, right, 0, 0, 0);
            made(expect, kinds, next++, 1, right, 0, 0, 0);
        }
        for (int function = 0; function < 6; function++) {
            made(expect, kinds, next++, 10, function, 0, 0, 0);
        }
        made(expect, kinds, next++, 11, 2, 0, 0, 0);
        made(expect, kinds, next++, 11, 3, 0, 0, 0);
        made(expect, kinds, next++, 9, 0, 0, 0, 0);
        made(expect, kinds, next++, 9, 0, 511, 0, 0);
        made(expect, kinds, next++, 2, FAR, 0, 0, 0);
        made(expect, kinds, next, 2, NEAR, 0, 0, 0);
    }

    private static void wrongParts(Expect expect) {
        SuccessKinds kinds = new SuccessKinds();
        made(expect, kinds, 0, 3, 0, 0, 0, 0);
        for (int wrong : new int[] {-1, 1, 90, FAR, NEAR}) {
            for (int sort : new int[] {4, 5, 6, 12, 13}) {
                refused(expect, kinds, sort, wrong, 0, 0, 0);
                refused(expect, kinds, sort, 0, wrong, 0, 0);
            }
            refused(expect, kinds, 7, wrong, 0, 0, 0);
            refused(expect, kinds, 8, wrong, 0, 0, 0);
            refused(expect, kinds, 9, wrong, 3, 0, 0);
            refused(expect, kinds, 9, 0, 3, wrong, 0);
            refused(expect, kinds, 9, 0, 3, 0, wrong);
            refused(expect, kinds, 10, 2, wrong, 0, 0);
            refused(expect, kinds, 10, 3, wrong, 0, 0);
            refused(expect, kinds, 10, 3, 0, wrong, 0);
            refused(expect, kinds, 11, 2, wrong, 0, 0);
            refused(expect, kinds, 11, 2, 0, wrong, 0);
        }
        made(expect, kinds, 1, 3, 0, 0, 0, 0);
    }

    private static void notNeededIsNotLookedAt(Expect expect) {
        SuccessKinds kinds = new SuccessKinds();
        made(expect, kinds, 0, 3, FAR, NEAR, -1, 600);
        made(expect, kinds, 1, 14, FAR, NEAR, -1, 600);
        made(expect, kinds, 2, 0, 3, NEAR, -1, 600);
        made(expect, kinds, 3, 1, 3, NEAR, -1, 600);
        made(expect, kinds, 4, 2, 3, NEAR, -1, 600);
        made(expect, kinds, 5, 4, 0, 0, -1, 600);
        made(expect, kinds, 6, 7, 0, -1, -1, 600);
        made(expect, kinds, 7, 10, 2, 0, -1, 600);
        made(expect, kinds, 8, 10, 3, 0, 0, 600);
        made(expect, kinds, 9, 11, 2, 0, 0, 600);
        made(expect, kinds, 10, 12, 0, 0, -1, 600);
        made(expect, kinds, 11, 13, 0, 0, -1, 600);
    }

    /** Each part by itself may be the one that makes an expression too deep. */
    private static void depthLimit(Expect expect) {
        SuccessKinds kinds = new SuccessKinds();
        made(expect, kinds, 0, 3, 0, 0, 0, 0);
        for (int deep = 1; deep <= 5; deep++) {
            made(expect, kinds, deep, 7, deep - 1, 0, 0, 0);
        }
        refused(expect, kinds, 7, 5, 0, 0, 0);
        refused(expect, kinds, 8, 5, 0, 0, 0);
        for (int sort : new int[] {4, 5, 6, 12, 13}) {
            refused(expect, kinds, sort, 5, 0, 0, 0);
            refused(expect, kinds, sort, 0, 5, 0, 0);
        }
        refused(expect, kinds, 9, 5, 0, 0, 0);
        refused(expect, kinds, 9, 0, 0, 5, 0);
        refused(expect, kinds, 9, 0, 0, 0, 5);
        refused(expect, kinds, 10, 3, 5, 0, 0);
        refused(expect, kinds, 10, 3, 0, 5, 0);
        refused(expect, kinds, 10, 0, 5, 0, 0);
        refused(expect, kinds, 11, 2, 5, 0, 0);
        refused(expect, kinds, 11, 2, 0, 5, 0);
        made(expect, kinds, 6, 10, 0, 4, 5, 0);
        made(expect, kinds, 7, 9, 4, 5, 4, 4);
    }

    /** Sizes 60 and 61, with each of a CASE's parts the greater one. */
    private static void sizeLimit(Expect expect) {
        SuccessKinds kinds = new SuccessKinds();
        made(expect, kinds, 0, 3, 0, 0, 0, 0);
        made(expect, kinds, 1, 6, 0, 0, 0, 0);
        made(expect, kinds, 2, 6, 1, 1, 0, 0);
        made(expect, kinds, 3, 6, 2, 2, 0, 0);
        made(expect, kinds, 4, 6, 3, 3, 0, 0);
        made(expect, kinds, 5, 6, 3, 2, 0, 0);
        made(expect, kinds, 6, 6, 2, 1, 0, 0);
        made(expect, kinds, 7, 6, 6, 3, 0, 0);
        made(expect, kinds, 8, 7, 7, 0, 0, 0);
        // 4 has size 31, 7 has 27, 8 has 28 and depth 5.
        refused(expect, kinds, 6, 4, 4, 0, 0);
        made(expect, kinds, 9, 6, 4, 7, 0, 0);
        made(expect, kinds, 10, 9, 4, 0, 7, 0);
        refused(expect, kinds, 9, 4, 0, 7, 1);
        refused(expect, kinds, 9, 7, 0, 1, 4);
        refused(expect, kinds, 9, 1, 0, 4, 7);
        made(expect, kinds, 11, 9, 0, 0, 4, 7);
        made(expect, kinds, 12, 11, 2, 4, 7, 0);
        refused(expect, kinds, 11, 2, 4, 4, 0);
        refused(expect, kinds, 10, 3, 4, 4, 0);
        made(expect, kinds, 13, 10, 2, 4, 4, 0);
        made(expect, kinds, 14, 9, 3, 0, 3, 7);
        // 15 has size 2: one more than what goes with 4 and 7.
        made(expect, kinds, 15, 8, 0, 0, 0, 0);
        refused(expect, kinds, 9, 15, 0, 4, 7);
        refused(expect, kinds, 9, 4, 0, 15, 7);
        refused(expect, kinds, 9, 4, 0, 7, 15);
        made(expect, kinds, 16, 9, 4, 0, 0, 7);
    }

    private static void atMostNinety(Expect expect) {
        SuccessKinds kinds = new SuccessKinds();
        for (int made = 0; made < 90; made++) {
            made(expect, kinds, made, 2, made, 0, 0, 0);
        }
        expect.throwing("the 91st", Expect.STATE, () -> kinds.make(3, 0, 0, 0, 0));
        expect.throwing("the 91st, of parts", Expect.STATE, () -> kinds.make(6, 89, 89, 0, 0));
        // A wrong argument is named first, and the place behind the last expression is not one of them.
        refused(expect, kinds, 15, 0, 0, 0, 0);
        refused(expect, kinds, 7, 90, 0, 0, 0);
        expect.throwing("define with the 91st", Expect.ARGUMENT, () -> kinds.define(0, 90));
        expect.throwing("run with the 91st", Expect.ARGUMENT, () -> kinds.run(0, 90, 0));
        expect.throwing("isHopeless of the 91st", Expect.ARGUMENT, () -> kinds.isHopeless(0, 90) ? 1 : 0);
        kinds.define(0, 89);
        expect.is("run of the 90th", 6, () -> kinds.run(0, 0, 0));
        expect.is("its number", 89, () -> kinds.part(0));
    }
}
