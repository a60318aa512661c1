/** Promise 2: make. */
public final class MakeTest {
    private static final int FAR = Integer.MAX_VALUE;
    private static final int NEAR = Integer.MIN_VALUE;

    public static void main(String[] args) {
        Expect expect = new Expect();
        numbersInOrder(expect);
        noSuchSort(expect);
        wrongDetails(expect);
        wrongParts(expect);
        notNeededIsNotLookedAt(expect);
        expect.finish();
    }

    private static void refused(Expect expect, SuccessKinds kinds, int... call) {
        String what = "make" + java.util.Arrays.toString(call);
        expect.throwing(what, Expect.ARGUMENT, () -> kinds.make(call[0], call[1], call[2], call[3], call[4]));
    }

    private static void made(Expect expect, SuccessKinds kinds, int due, int... call) {
        String what = "make" + java.util.Arrays.toString(call);
        expect.is(what, due, () -> kinds.make(call[0], call[1], call[2], call[3], call[4]));
    }

    private static void numbersInOrder(Expect expect) {
        SuccessKinds kinds = new SuccessKinds();
        made(expect, kinds, 0, 3, 0, 0, 0, 0);
        refused(expect, kinds, 7, 1, 0, 0, 0);
        made(expect, kinds, 1, 7, 0, 0, 0, 0);
        made(expect, kinds, 2, 7, 0, 0, 0, 0);
        made(expect, kinds, 3, 6, 1, 2, 0, 0);
    }

    private static void noSuchSort(Expect expect) {
        SuccessKinds kinds = new SuccessKinds();
        made(expect, kinds, 0, 3, 0, 0, 0, 0);
        for (int sort : new int[] {-1, 15, 16, FAR, NEAR}) {
            refused(expect, kinds, sort, 0, 0, 0, 0);
        }
        made(expect, kinds, 1, 14, 0, 0, 0, 0);
    }

    private static void wrongDetails(Expect expect) {
        SuccessKinds kinds = new SuccessKinds();
        made(expect, kinds, 0, 3, 0, 0, 0, 0);
        for (int wrong : new int[] {-1, 4, FAR, NEAR}) {
            refused(expect, kinds, 0, wrong, 0, 0, 0);
            refused(expect, kinds, 1, wrong, 0, 0, 0);
            refused(expect, kinds, 11, wrong, 0, 0, 0);
        }
        refused(expect, kinds, 11, 0, 0, 0, 0);
        refused(expect, kinds, 11, 1, 0, 0, 0);
        for (int wrong : new int[] {-1, 512, FAR, NEAR}) {
            refused(expect, kinds, 9, 0, wrong, 0, 0);
        }
        for (int wrong : new int[] {-1, 6, FAR, NEAR}) {
            refused(expect, kinds, 10, wrong, 0, 0, 0);
        }
        int next = 1;
        for (int right = 0; right < 4; right++) {
            made(expect, kinds, next++, 0, right, 0, 0, 0);
            made(expect, kinds, next++, 1, right, 0, 0, 0);
        }
        for (int function = 0; function < 6; function++) {
            made(expect, kinds, next++, 10, function, 0, 0, 0);
        }
        made(expect, kinds, next++, 11, 2, 0, 0, 0);
        made(expect, kinds, next++, 11, 3, 0, 0, 0);
        made(expect, kinds, next++, 9, 0, 0, 0, 0);
        made(expect, kinds, next++, 9, 0, 511, 0, 0);
        made(expect, kinds, next++, 2, FAR, 0, 0, 0);
        made(expect, kinds, next, 2, NEAR, 0, 0, 0);
    }

    private static void wrongParts(Expect expect) {
        SuccessKinds kinds = new SuccessKinds();
        made(expect, kinds, 0, 3, 0, 0, 0, 0);
        for (int wrong : new int[] {-1, 1, 90, FAR, NEAR}) {
            for (int sort : new int[] {4, 5, 6, 12, 13}) {
                refused(expect, kinds, sort, wrong, 0, 0, 0);
                refused(expect, kinds, sort, 0, wrong, 0, 0);
            }
            refused(expect, kinds, 7, wrong, 0, 0, 0);
            refused(expect, kinds, 8, wrong, 0, 0, 0);
            refused(expect, kinds, 9, wrong, 3, 0, 0);
            refused(expect, kinds, 9, 0, 3, wrong, 0);
            refused(expect, kinds, 9, 0, 3, 0, wrong);
            refused(expect, kinds, 10, 2, wrong, 0, 0);
            refused(expect, kinds, 10, 3, wrong, 0, 0);
            refused(expect, kinds, 10, 3, 0, wrong, 0);
            refused(expect, kinds, 11, 2, wrong, 0, 0);
            refused(expect, kinds, 11, 2, 0, wrong, 0);
        }
        made(expect, kinds, 1, 3, 0, 0, 0, 0);
    }

    private static void notNeededIsNotLookedAt(Expect expect) {
        SuccessKinds kinds = new SuccessKinds();
        made(expect, kinds, 0, 3, FAR, NEAR, -1, 600);
        made(expect, kinds, 1, 14, FAR, NEAR, -1, 600);
        made(expect, kinds, 2, 0, 3, NEAR, -1, 600);
        made(expect, kinds, 3, 1, 3, NEAR, -1, 600);
        made(expect, kinds, 4, 2, 3, NEAR, -1, 600);
        made(expect, kinds, 5, 4, 0, 0, -1, 600);
        made(expect, kinds, 6, 7, 0, -1, -1, 600);
        made(expect, kinds, 7, 10, 2, 0, -1, 600);
        made(expect, kinds, 8, 10, 3, 0, 0, 600);
        made(expect, kinds, 9, 11, 2, 0, 0, 600);
        made(expect, kinds, 10, 12, 0, 0, -1, 600);
        made(expect, kinds, 11, 13, 0, 0, -1, 600);
    }
}
