/** Promise 3: define. */
public final class DefineTest {
    public static void main(String[] args) {
        Expect expect = new Expect();
        howMany(expect);
        inPlaceOfWhatItHad(expect);
        wrongArguments(expect);
        expect.finish();
    }

    private static void howMany(Expect expect) {
        Maker maker = new Maker();
        int nil = maker.nil();
        int due = 0;
        for (int function = 5; function >= 0; function--) {
            int wanted = function;
            due++;
            expect.is("define(" + function + ")", due, () -> maker.kinds.define(wanted, nil));
            expect.is("define(" + function + ") again", due, () -> maker.kinds.define(wanted, nil));
        }
    }

    private static void inPlaceOfWhatItHad(Expect expect) {
        Maker maker = new Maker();
        SuccessKinds kinds = maker.kinds;
        int nil = maker.nil();
        int number = maker.number(4);
        int fail = maker.fail();
        int call = maker.call(0, nil);
        kinds.define(0, nil);
        kinds.define(1, call);
        expect.is("gives(1)", Maker.NIL, () -> kinds.gives(1));
        expect.is("run(1)", 7, () -> kinds.run(1, nil, 0));
        kinds.define(0, number);
        expect.is("gives(0) anew", Maker.ABOVE, () -> kinds.gives(0));
        expect.is("gives(1) anew", Maker.ABOVE, () -> kinds.gives(1));
        expect.is("run(1) anew", 6, () -> kinds.run(1, nil, 0));
        kinds.define(0, fail);
        expect.is("gives(1) of a failing one", 0, () -> kinds.gives(1));
        expect.is("may(1, 0) of a failing one", 0, () -> kinds.may(1, 0));
        expect.is("hopeless(1) of a failing one", 1, () -> kinds.hopeless(1));
        expect.throwing("run(1) of a failing one", Expect.UNSUPPORTED, () -> kinds.run(1, nil, 0));
        kinds.define(0, nil);
        expect.is("hopeless(1) after all", 0, () -> kinds.hopeless(1));
    }

    private static void wrongArguments(Expect expect) {
        Maker maker = new Maker();
        SuccessKinds kinds = maker.kinds;
        int nil = maker.nil();
        kinds.define(0, nil);
        for (int wrong : new int[] {-1, 6, Integer.MAX_VALUE, Integer.MIN_VALUE}) {
            expect.throwing("define(" + wrong + ", 0)", Expect.ARGUMENT, () -> kinds.define(wrong, 0));
        }
        for (int wrong : new int[] {-1, 1, 90, Integer.MAX_VALUE, Integer.MIN_VALUE}) {
            expect.throwing("define(0, " + wrong + ")", Expect.ARGUMENT, () -> kinds.define(0, wrong));
            expect.throwing("define(1, " + wrong + ")", Expect.ARGUMENT, () -> kinds.define(1, wrong));
        }
        expect.is("gives(0) is unchanged", Maker.NIL, () -> kinds.gives(0));
        expect.is("the second body", 2, () -> kinds.define(1, nil));
    }
}
