import java.util.Arrays;
import java.util.Random;

/**
 * Programs, always the same ones, whose runs seldom fail at once and go on for long, so that they
 * come to all sides of what cuts a run off; answered as by the model.
 */
public final class LongRunsTest {
    private static final int PROGRAMS = 3000;
    private static final int FUNCTIONS = 6;
    private static final int LEAVES = 7;
    private static final int SECOND_VARIABLE = 1;
    private static final int NIL = 4;
    private static final int FAIL = 5;
    private static final int CAUGHT = 6;
    private static final int BRANCHES = 10;
    private static final int RUNS = 40;

    private final Expect expect;
    private final Random random;
    private final String where;
    private final SuccessKinds kinds = new SuccessKinds();
    private final Model model = new Model();
    /** In a calm program hardly anything fails, so that its runs go on until they are too long. */
    private final boolean calm;
    /** Its pairs are too many before its steps are. */
    private final boolean pairing;
    private int made;

    private LongRunsTest(Expect expect, int seed) {
        this.expect = expect;
        random = new Random(seed);
        calm = seed % 3 != 0;
        pairing = seed % 3 == 1;
        where = "seed " + seed + ": ";
    }

    public static void main(String[] args) {
        Expect expect = new Expect();
        for (int seed = 0; seed < PROGRAMS; seed++) {
            new LongRunsTest(expect, seed).oneProgram();
        }
        expect.finish();
    }

    private void oneProgram() {
        leaves();
        for (int function = FUNCTIONS - 1; function >= 0; function--) {
            int f = function;
            for (int branch = 0; branch < BRANCHES; branch++) {
                branch(f);
            }
            both("define", () -> model.define(f, made - 1), () -> kinds.define(f, made - 1));
        }
        for (int run = 0; run < RUNS; run++) {
            int f = random.nextInt(FUNCTIONS);
            int x = argument();
            int y = argument();
            both("run(" + f + ", " + x + ", " + y + ")", () -> model.run(f, x, y), () -> kinds.run(f, x, y));
            both("calls()", () -> model.calls(), () -> kinds.calls());
            for (int part : new int[] {0, random.nextInt(60), 59}) {
                both("part(" + part + ")", () -> model.part(part), () -> kinds.part(part));
            }
        }
    }

    private void leaves() {
        make(0, 0, 0, 0, 0);
        make(0, 1, 0, 0, 0);
        make(1, random.nextInt(4), 0, 0, 0);
        make(2, random.nextInt(3) - 1, 0, 0, 0);
        make(3, 0, 0, 0, 0);
        make(14, 0, 0, 0, 0);
        make(12, FAIL, NIL, 0, 0);
    }

    private void branch(int function) {
        int a = part(function);
        int b = part(function);
        int c = part(function);
        switch (random.nextInt(calm ? 12 : 14)) {
            case 0, 1, 2, 3 -> make(calm && !pairing ? 13 : 6, a, b, 0, 0);
            case 4, 5, 6 -> make(10, anyAbove(function), a, b, 0);
            case 7, 8 -> make(11, 2 + random.nextInt(2), a, b, 0);
            case 9 -> make(9, a, random.nextInt(512), b, c);
            case 10 -> make(12, a, b, 0, 0);
            case 11 -> make(13, a, b, 0, 0);
            case 12 -> make(12, CAUGHT, a, 0, 0);
            default -> make(4 + random.nextInt(5), a, b, 0, 0);
        }
    }

    private int anyAbove(int function) {
        return Math.min(function + 1 + random.nextInt(2), random.nextInt(20) == 0 ? function : FUNCTIONS - 1);
    }

    /** One of the newest, so that bodies become great. */
    private int part(int function) {
        if (random.nextInt(4) == 0) {
            int leaf = random.nextInt(LEAVES);
            boolean failing = leaf == FAIL || calm && leaf == CAUGHT || leaf == SECOND_VARIABLE && (calm || function < 3);
            return failing ? 0 : leaf;
        }
        return made - 1 - random.nextInt(Math.min(made - 2, 4));
    }

    private int argument() {
        return random.nextBoolean() ? 2 + random.nextInt(3) : random.nextInt(made);
    }

    private void make(int... m) {
        String due = both("make" + Arrays.toString(m),
                () -> model.make(m[0], m[1], m[2], m[3], m[4]), () -> kinds.make(m[0], m[1], m[2], m[3], m[4]));
        if (Character.isDigit(due.charAt(0))) {
            made++;
        }
    }

    private String both(String call, Expect.Call ofModel, Expect.Call ofKinds) {
        String due = Expect.answerOf(ofModel);
        expect.compare(where + call, due, Expect.answerOf(ofKinds));
        return due;
    }
}
