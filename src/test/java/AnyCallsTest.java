import java.util.Random;

/**
 * "An object is used for at most 512 calls after it has been made": objects used for all of them,
 * always the same ones, in whatever order and with whatever ints, answered as by the model.
 */
public final class AnyCallsTest {
    private static final int OBJECTS = 600;
    private static final int CALLS = 512;
    private static final int METHODS = 9;
    private static final int[] ENDS = {
        Integer.MIN_VALUE, Integer.MIN_VALUE + 1, -512, -61, -60, -2, -1, 0, 1, 2, 3, 4, 5, 6, 7, 14, 15, 16, 59, 60,
        61, 89, 90, 91, 510, 511, 512, 1 << 16, 1 << 30, Integer.MAX_VALUE - 1, Integer.MAX_VALUE
    };

    private final Expect expect;
    private final Random random;
    private final SuccessKinds kinds = new SuccessKinds();
    private final Model model = new Model();
    /** How often each method comes, so that the orders differ much from object to object. */
    private final int[] weights = new int[METHODS];
    private final int wildness;
    private int made;
    private String where;

    private AnyCallsTest(Expect expect, int seed) {
        this.expect = expect;
        random = new Random(seed);
        for (int method = 0; method < METHODS; method++) {
            weights[method] = 1 + random.nextInt(8);
        }
        weights[0] += 8;
        wildness = 2 + random.nextInt(40);
    }

    public static void main(String[] args) {
        Expect expect = new Expect();
        for (int seed = 0; seed < OBJECTS; seed++) {
            AnyCallsTest test = new AnyCallsTest(expect, seed);
            for (int call = 1; call <= CALLS; call++) {
                test.where = "seed " + seed + ", call " + call + ": ";
                test.anyCall();
            }
        }
        expect.finish();
    }

    private void anyCall() {
        int f = number(6);
        int e = number(made);
        int y = number(made);
        int i = number(2);
        int place = number(60);
        switch (anyMethod()) {
            case 0 -> anyMake();
            case 1 -> both("define(" + f + ", " + e + ")", () -> model.define(f, e), () -> kinds.define(f, e));
            case 2 -> both("may(" + f + ", " + i + ")", () -> model.may(f, i), () -> kinds.may(f, i));
            case 3 -> both("gives(" + f + ")", () -> model.gives(f), () -> kinds.gives(f));
            case 4 -> both("hopeless(" + f + ")", () -> model.hopeless(f), () -> kinds.hopeless(f));
            case 5 -> both("isHopeless(" + f + ", " + e + ")",
                    () -> model.isHopeless(f, e) ? 1 : 0, () -> kinds.isHopeless(f, e) ? 1 : 0);
            case 6 -> both("run(" + f + ", " + e + ", " + y + ")", () -> model.run(f, e, y), () -> kinds.run(f, e, y));
            case 7 -> both("part(" + place + ")", () -> model.part(place), () -> kinds.part(place));
            default -> both("calls()", () -> model.calls(), () -> kinds.calls());
        }
    }

    private void anyMake() {
        int sort = number(15);
        int a = number(detailsOf(sort));
        int b = number(sort == 9 ? 512 : made);
        int c = number(made);
        int d = number(made);
        String call = "make(" + sort + ", " + a + ", " + b + ", " + c + ", " + d + ")";
        String due = both(call, () -> model.make(sort, a, b, c, d), () -> kinds.make(sort, a, b, c, d));
        if (Character.isDigit(due.charAt(0))) {
            made++;
        }
    }

    private int detailsOf(int sort) {
        switch (sort) {
            case 0:
            case 1:
            case 11:
                return 4;
            case 10:
                return 6;
            default:
                return made;
        }
    }

    private int anyMethod() {
        int whole = 0;
        for (int weight : weights) {
            whole += weight;
        }
        int left = random.nextInt(whole);
        int method = 0;
        while (left >= weights[method]) {
            left -= weights[method];
            method++;
        }
        return method;
    }

    /** Mostly one from 0 to below a bound, at times any int. */
    private int number(int bound) {
        if (bound > 0 && random.nextInt(wildness) != 0) {
            return random.nextInt(bound);
        }
        return random.nextInt(3) == 0 ? random.nextInt() : ENDS[random.nextInt(ENDS.length)];
    }

    private String both(String call, Expect.Call ofModel, Expect.Call ofKinds) {
        String due = Expect.answerOf(ofModel);
        expect.compare(where + call, due, Expect.answerOf(ofKinds));
        return due;
    }
}
