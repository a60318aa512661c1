/** Makes expressions by the names of their sorts. */
final class Maker {
    static final int ALL = 511;
    static final int NUMBERS = 16 + 32 + 64;
    static final int BELOW = 16;
    static final int ZERO = 32;
    static final int ABOVE = 64;
    static final int NIL = 128;
    static final int PAIR = 256;

    final SuccessKinds kinds = new SuccessKinds();

    int variable(int variable) {
        return kinds.make(0, variable, 0, 0, 0);
    }

    int atom(int atom) {
        return kinds.make(1, atom, 0, 0, 0);
    }

    int number(int number) {
        return kinds.make(2, number, 0, 0, 0);
    }

    int nil() {
        return kinds.make(3, 0, 0, 0, 0);
    }

    int sum(int a, int b) {
        return kinds.make(4, a, b, 0, 0);
    }

    int difference(int a, int b) {
        return kinds.make(5, a, b, 0, 0);
    }

    int pair(int a, int b) {
        return kinds.make(6, a, b, 0, 0);
    }

    int head(int a) {
        return kinds.make(7, a, 0, 0, 0);
    }

    int tail(int a) {
        return kinds.make(8, a, 0, 0, 0);
    }

    int caseOf(int a, int set, int then, int otherwise) {
        return kinds.make(9, a, set, then, otherwise);
    }

    int call(int function, int x) {
        return kinds.make(10, function, x, 0, 0);
    }

    int call(int function, int x, int y) {
        return kinds.make(10, function, x, y, 0);
    }

    int let(int variable, int be, int in) {
        return kinds.make(11, variable, be, in, 0);
    }

    int attempt(int a, int otherwise) {
        return kinds.make(12, a, otherwise, 0, 0);
    }

    int same(int a, int b) {
        return kinds.make(13, a, b, 0, 0);
    }

    int fail() {
        return kinds.make(14, 0, 0, 0, 0);
    }

    /** An expression of a number's kind, an atom, nil or a pair: one for each kind. */
    int ofKind(int kind) {
        switch (kind) {
            case 4:
                return number(-7);
            case 5:
                return number(0);
            case 6:
                return number(7);
            case 7:
                return nil();
            case 8:
                int part = nil();
                return pair(part, part);
            default:
                return atom(kind);
        }
    }
}
