/** Promise 1: a new object has no expressions and no bodies. */
public final class NewObjectTest {
    public static void main(String[] args) {
        Expect expect = new Expect();
        for (int function = 0; function < 6; function++) {
            emptyFunction(expect, function);
        }
        SuccessKinds kinds = new SuccessKinds();
        expect.throwing("define(0, 0)", Expect.ARGUMENT, () -> kinds.define(0, 0));
        expect.throwing("run(0, 0, 0)", Expect.ARGUMENT, () -> kinds.run(0, 0, 0));
        expect.throwing("isHopeless(0, 0)", Expect.ARGUMENT, () -> kinds.isHopeless(0, 0) ? 1 : 0);
        expect.throwing("part(0)", Expect.INDEX, () -> kinds.part(0));
        expect.is("calls()", 0, () -> kinds.calls());
        expect.throwing("head of nothing", Expect.ARGUMENT, () -> kinds.make(7, 0, 0, 0, 0));
        expect.is("the first expression", 0, () -> kinds.make(3, 0, 0, 0, 0));
        expect.is("the first body", 1, () -> kinds.define(5, 0));
        objectsShareNothing(expect);
        expect.finish();
    }

    private static void emptyFunction(Expect expect, int function) {
        SuccessKinds kinds = new SuccessKinds();
        expect.is("gives", 0, () -> kinds.gives(function));
        expect.is("may 0", 0, () -> kinds.may(function, 0));
        expect.is("hopeless", 0, () -> kinds.hopeless(function));
        if (function >= 3) {
            expect.is("may 1", 0, () -> kinds.may(function, 1));
        }
        int nil = kinds.make(3, 0, 0, 0, 0);
        expect.throwing("run", Expect.UNSUPPORTED, () -> kinds.run(function, nil, nil));
    }

    private static void objectsShareNothing(Expect expect) {
        Maker used = new Maker();
        int nil = used.nil();
        used.kinds.define(0, nil);
        used.kinds.run(0, nil, 0);
        SuccessKinds other = new SuccessKinds();
        expect.is("calls() of another", 0, () -> other.calls());
        expect.is("gives(0) of another", 0, () -> other.gives(0));
        expect.throwing("part(0) of another", Expect.INDEX, () -> other.part(0));
        expect.is("first expression of another", 0, () -> other.make(3, 0, 0, 0, 0));
    }
}
