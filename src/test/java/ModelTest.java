import java.util.Random;

/** Long runs of calls, always the same ones, answered by the program as by the model. */
public final class ModelTest {
    private static final int OBJECTS = 600;
    private static final int CALLS = 512;

    public static void main(String[] args) {
        Expect expect = new Expect();
        for (int seed = 0; seed < OBJECTS; seed++) {
            oneObject(expect, seed);
        }
        expect.finish();
    }

    private static void oneObject(Expect expect, int seed) {
        Random random = new Random(seed);
        SuccessKinds kinds = new SuccessKinds();
        Model model = new Model();
        int made = 0;
        int first = 20 + random.nextInt(71);
        for (int call = 0; call < CALLS; call++) {
            boolean making = call < first || random.nextInt(30) == 0;
            if (making) {
                int[] m = makeCall(random, made);
                String due = Expect.answerOf(() -> model.make(m[0], m[1], m[2], m[3], m[4]));
                String got = Expect.answerOf(() -> kinds.make(m[0], m[1], m[2], m[3], m[4]));
                made += Character.isDigit(due.charAt(0)) ? 1 : 0;
                expect.compare("seed " + seed + ", call " + call + ": make" + java.util.Arrays.toString(m), due, got);
            } else {
                question(expect, "seed " + seed + ", call " + call + ": ", random, made, kinds, model);
            }
        }
    }

    private static int[] makeCall(Random random, int made) {
        int[] m = new int[5];
        m[0] = random.nextInt(60) == 0 ? random.nextInt(20) - 3 : pickSort(random, made);
        for (int i = 1; i < 5; i++) {
            m[i] = pickExpression(random, made);
        }
        switch (m[0]) {
            case 0, 1 -> m[1] = wild(random, random.nextInt(4));
            case 2 -> m[1] = pickNumber(random);
            case 9 -> m[2] = wild(random, random.nextInt(3) == 0 ? 1 << random.nextInt(9) : random.nextInt(512));
            case 10 -> m[1] = wild(random, random.nextInt(6));
            case 11 -> m[1] = wild(random, 2 + random.nextInt(2));
            default -> { }
        }
        return m;
    }

    private static int pickSort(Random random, int made) {
        return made < 8 ? random.nextInt(4) : random.nextInt(3) == 0 ? 9 + random.nextInt(4) : random.nextInt(15);
    }

    private static int pickNumber(Random random) {
        int[] some = {0, 0, 1, -1, 2, -3, Integer.MAX_VALUE, Integer.MIN_VALUE};
        return some[random.nextInt(some.length)];
    }

    private static int pickExpression(Random random, int made) {
        return wild(random, made == 0 ? 0 : random.nextInt(made));
    }

    private static int wild(Random random, int tame) {
        return random.nextInt(200) == 0 ? tame - 3 + 600 * random.nextInt(2) : tame;
    }

    private static void question(Expect expect, String where, Random random, int made, SuccessKinds kinds, Model model) {
        int f = wild(random, random.nextInt(6));
        int e = pickExpression(random, made);
        int i = random.nextInt(3);
        int y = pickExpression(random, made);
        int place = random.nextInt(8) == 0 ? random.nextInt(64) - 2 : random.nextInt(6);
        String call = "(" + f + ", " + e + ", " + y + "), " + i + ", " + place;
        switch (random.nextInt(10)) {
            case 0, 1 -> both(expect, where + "define" + call, () -> model.define(f, e), () -> kinds.define(f, e));
            case 2 -> both(expect, where + "may" + call, () -> model.may(f, i), () -> kinds.may(f, i));
            case 3 -> both(expect, where + "gives" + call, () -> model.gives(f), () -> kinds.gives(f));
            case 4 -> both(expect, where + "hopeless" + call, () -> model.hopeless(f), () -> kinds.hopeless(f));
            case 5 -> both(expect, where + "isHopeless" + call,
                    () -> model.isHopeless(f, e) ? 1 : 0, () -> kinds.isHopeless(f, e) ? 1 : 0);
            case 6, 7 -> both(expect, where + "run" + call, () -> model.run(f, e, y), () -> kinds.run(f, e, y));
            case 8 -> both(expect, where + "part" + call, () -> model.part(place), () -> kinds.part(place));
            default -> both(expect, where + "calls" + call, () -> model.calls(), () -> kinds.calls());
        }
    }

    private static void both(Expect expect, String what, Expect.Call model, Expect.Call kinds) {
        expect.compare(what, Expect.answerOf(model), Expect.answerOf(kinds));
    }
}
