/** Edges of expressions: how many, how deep, how great, and the sets of a CASE. */
public final class ExpressionEdgesTest {
    /** For each way to make an expression of parts: its sort, and where its parts stand in a, b, c, d. */
    private static final int[][] WITH_PARTS = {
        {4, 0, 1}, {5, 0, 1}, {6, 0, 1}, {7, 0}, {8, 0}, {9, 0, 2, 3}, {12, 0, 1}, {13, 0, 1}, {11, 1, 2}};
    private static final int[] WITHOUT_PARTS = {0, 1, 2, 3, 14};

    public static void main(String[] args) {
        Expect expect = new Expect();
        atMostNinety(expect);
        atMostNinetyOfEachSort(expect);
        sorts(expect);
        depthWithoutParts(expect);
        depthOfTheDeepestPart(expect);
        depthOfArguments(expect);
        sizeOfParts(expect);
        sizeOfArguments(expect);
        aPartThatComesTwice(expect);
        sets(expect);
        partsWereMadeBefore(expect);
        expect.finish();
    }

    private static long make(SuccessKinds kinds, int sort, int... given) {
        return kinds.make(sort, given[0], given[1], given[2], given[3]);
    }

    /** "at most 90": the 90th is made and can be used, the 91st isn't there. */
    private static void atMostNinety(Expect expect) {
        SuccessKinds kinds = new SuccessKinds();
        for (int made = 0; made < 90; made++) {
            int number = made;
            expect.is("expression " + made, made, () -> kinds.make(2, number, 0, 0, 0));
        }
        for (int again = 0; again < 3; again++) {
            expect.throwing("the 91st", Expect.STATE, () -> kinds.make(3, 0, 0, 0, 0));
            expect.throwing("the 91st, of parts", Expect.STATE, () -> kinds.make(6, 89, 89, 0, 0));
        }
        expect.throwing("define with the 91st", Expect.ARGUMENT, () -> kinds.define(0, 90));
        expect.throwing("isHopeless of the 91st", Expect.ARGUMENT, () -> kinds.isHopeless(0, 90) ? 1 : 0);
        expect.is("isHopeless of the 90th", 0, () -> kinds.isHopeless(0, 89) ? 1 : 0);
        expect.is("define with the 90th", 1, () -> kinds.define(0, 89));
        expect.throwing("run with the 91st", Expect.ARGUMENT, () -> kinds.run(0, 90, 0));
        expect.is("run with the 90th", 6, () -> kinds.run(0, 89, 90));
        expect.is("its number", 89, () -> kinds.part(0));
        // Wrong arguments are named first.
        expect.throwing("no sort, when there are 90", Expect.ARGUMENT, () -> kinds.make(15, 0, 0, 0, 0));
        expect.throwing("no part, when there are 90", Expect.ARGUMENT, () -> kinds.make(7, 90, 0, 0, 0));
        expect.throwing("no atom, when there are 90", Expect.ARGUMENT, () -> kinds.make(1, 4, 0, 0, 0));
    }

    private static void atMostNinetyOfEachSort(Expect expect) {
        for (int sort = 0; sort <= 14; sort++) {
            SuccessKinds kinds = new SuccessKinds();
            int[] given = sort == 11 ? new int[] {2, 0, 0, 0} : new int[4];
            for (int made = 0; made < 89; made++) {
                kinds.make(3, 0, 0, 0, 0);
            }
            int wanted = sort;
            expect.is("sort " + sort + " as the 90th", 89, () -> make(kinds, wanted, given));
            expect.throwing("sort " + sort + " as the 91st", Expect.STATE, () -> make(kinds, wanted, given));
        }
    }

    /** "no such sort": 0 and 14 are the last ones. */
    private static void sorts(Expect expect) {
        SuccessKinds kinds = new SuccessKinds();
        for (int wrong : new int[] {-1, 15, Integer.MIN_VALUE, Integer.MAX_VALUE}) {
            expect.throwing("sort " + wrong, Expect.ARGUMENT, () -> kinds.make(wrong, 0, 0, 0, 0));
        }
        expect.is("sort 0", 0, () -> kinds.make(0, 0, 0, 0, 0));
        expect.is("sort 14", 1, () -> kinds.make(14, 0, 0, 0, 0));
    }

    /** "DEPTH is 0 without parts": so five more fit around each of them, and not six. */
    private static void depthWithoutParts(Expect expect) {
        for (int sort : WITHOUT_PARTS) {
            SuccessKinds kinds = new SuccessKinds();
            kinds.make(sort, 1, 0, 0, 0);
            for (int depth = 1; depth <= 5; depth++) {
                int below = depth - 1;
                expect.is("depth " + depth + " over sort " + sort, depth, () -> kinds.make(7, below, 0, 0, 0));
            }
            expect.throwing("depth 6 over sort " + sort, Expect.ARGUMENT, () -> kinds.make(7, 5, 0, 0, 0));
        }
    }

    /** Expressions 0 to 5 have the depths 0 to 5. */
    private static SuccessKinds sixDepths() {
        SuccessKinds kinds = new SuccessKinds();
        kinds.make(3, 0, 0, 0, 0);
        for (int depth = 1; depth <= 5; depth++) {
            kinds.make(8, depth - 1, 0, 0, 0);
        }
        return kinds;
    }

    /** "else 1 more than its deepest part's, at most 5": for every sort, whichever part is the deepest. */
    private static void depthOfTheDeepestPart(Expect expect) {
        for (int[] way : WITH_PARTS) {
            for (int deepest = 1; deepest < way.length; deepest++) {
                SuccessKinds kinds = sixDepths();
                String what = "sort " + way[0] + ", part " + deepest;
                int[] given = {way[0] == 11 ? 2 : 0, 0, 0, 0};
                given[way[deepest]] = 5;
                expect.throwing(what + " of depth 5", Expect.ARGUMENT, () -> make(kinds, way[0], given));
                given[way[deepest]] = 4;
                expect.is(what + " of depth 4", 6, () -> make(kinds, way[0], given));
                // What was made is of depth 5 itself.
                expect.throwing(what + ": one more", Expect.ARGUMENT, () -> kinds.make(7, 6, 0, 0, 0));
                given[way[deepest]] = 3;
                expect.is(what + " of depth 3", 7, () -> make(kinds, way[0], given));
                expect.is(what + ": one more around depth 4", 8, () -> kinds.make(7, 7, 0, 0, 0));
                expect.throwing(what + ": two more", Expect.ARGUMENT, () -> kinds.make(7, 8, 0, 0, 0));
            }
        }
    }

    /** A CALL's second argument counts only for a function with two parameters. */
    private static void depthOfArguments(Expect expect) {
        for (int function = 0; function <= 5; function++) {
            int f = function;
            SuccessKinds kinds = sixDepths();
            expect.throwing("b of depth 5 for " + f, Expect.ARGUMENT, () -> kinds.make(10, f, 5, 0, 0));
            if (f <= 2) {
                expect.is("c of depth 5 for " + f, 6, () -> kinds.make(10, f, 4, 5, 5));
            } else {
                expect.throwing("c of depth 5 for " + f, Expect.ARGUMENT, () -> kinds.make(10, f, 0, 5, 0));
                expect.is("c of depth 4 for " + f, 6, () -> kinds.make(10, f, 0, 4, 5));
            }
            expect.throwing("one more around " + f, Expect.ARGUMENT, () -> kinds.make(7, 6, 0, 0, 0));
        }
    }

    /** "its SIZE 1 and the sizes of its parts, at most 60": for every sort, whichever part is the greatest. */
    private static void sizeOfParts(Expect expect) {
        for (int[] way : WITH_PARTS) {
            int parts = way.length - 1;
            for (int greatest = 1; greatest <= parts; greatest++) {
                Maker maker = new Maker();
                SuccessKinds kinds = maker.kinds;
                Sized sized = new Sized(maker);
                int one = sized.ofSize(1);
                int fits = sized.ofSize(60 - parts);
                int tooGreat = sized.ofSize(61 - parts);
                String what = "sort " + way[0] + ", part " + greatest;
                int[] given = {one, one, one, one};
                given[0] = way[0] == 11 ? 3 : one;
                given[way[greatest]] = tooGreat;
                expect.throwing(what + ": size 61", Expect.ARGUMENT, () -> make(kinds, way[0], given));
                given[way[greatest]] = fits;
                int due = kinds.make(3, 0, 0, 0, 0) + 1;
                expect.is(what + ": size 60", due, () -> make(kinds, way[0], given));
                expect.throwing(what + ": one more around", Expect.ARGUMENT, () -> kinds.make(7, due, 0, 0, 0));
            }
        }
    }

    private static void sizeOfArguments(Expect expect) {
        for (int function = 0; function <= 5; function++) {
            int f = function;
            Maker maker = new Maker();
            SuccessKinds kinds = maker.kinds;
            Sized sized = new Sized(maker);
            int one = sized.ofSize(1);
            int of58 = sized.ofSize(58);
            int of59 = sized.ofSize(59);
            int of60 = sized.ofSize(60);
            int due = kinds.make(3, 0, 0, 0, 0) + 1;
            if (f <= 2) {
                expect.throwing("61 for " + f, Expect.ARGUMENT, () -> kinds.make(10, f, of60, one, one));
                expect.is("60 for " + f, due, () -> kinds.make(10, f, of59, of60, of60));
            } else {
                expect.throwing("61 by b for " + f, Expect.ARGUMENT, () -> kinds.make(10, f, of59, one, one));
                expect.throwing("61 by c for " + f, Expect.ARGUMENT, () -> kinds.make(10, f, one, of59, one));
                expect.is("60 by b for " + f, due, () -> kinds.make(10, f, of58, one, of60));
                expect.is("60 by c for " + f, due + 1, () -> kinds.make(10, f, one, of58, of60));
            }
        }
    }

    /** The same expression as two parts counts twice. */
    private static void aPartThatComesTwice(Expect expect) {
        Maker maker = new Maker();
        SuccessKinds kinds = maker.kinds;
        Sized sized = new Sized(maker);
        int of29 = sized.ofSize(29);
        int of30 = sized.ofSize(30);
        int of19 = sized.ofSize(19);
        int of20 = sized.ofSize(20);
        int one = sized.ofSize(1);
        int due = maker.nil() + 1;
        expect.throwing("twice 30", Expect.ARGUMENT, () -> kinds.make(6, of30, of30, 0, 0));
        expect.throwing("thrice 20", Expect.ARGUMENT, () -> kinds.make(9, of20, 0, of20, of20));
        expect.is("29 and 30", due, () -> kinds.make(6, of29, of30, 0, 0));
        expect.is("twice 29", due + 1, () -> kinds.make(6, of29, of29, 0, 0));
        expect.is("and one around", due + 2, () -> kinds.make(7, due + 1, 0, 0, 0));
        expect.throwing("and two around", Expect.ARGUMENT, () -> kinds.make(7, due + 2, 0, 0, 0));
        expect.throwing("and a pair around", Expect.ARGUMENT, () -> kinds.make(6, due + 1, one, 0, 0));
        expect.is("19 and twice 20", due + 3, () -> kinds.make(9, of19, 0, of20, of20));
        expect.throwing("and one around that", Expect.ARGUMENT, () -> kinds.make(7, due + 3, 0, 0, 0));
    }

    /** sets "0 .. 511": the empty one is always d, the full one always c. */
    private static void sets(Expect expect) {
        for (int kind = 0; kind <= 8; kind++) {
            Maker maker = new Maker();
            SuccessKinds kinds = maker.kinds;
            int value = maker.ofKind(kind);
            int yes = maker.atom(1);
            int no = maker.atom(0);
            for (int wrong : new int[] {-1, 512, 513, Integer.MIN_VALUE, Integer.MAX_VALUE}) {
                expect.throwing("set " + wrong, Expect.ARGUMENT, () -> kinds.make(9, value, wrong, yes, no));
            }
            int none = maker.caseOf(value, 0, yes, no);
            int all = maker.caseOf(value, 511, yes, no);
            expect.is("sets 0 and 511 were made one behind the other", none + 1, () -> all);
            kinds.define(0, none);
            expect.is("set 0 with kind " + kind, 0, () -> kinds.run(0, value, 0));
            expect.is("gives with set 0", 1, () -> kinds.gives(0));
            kinds.define(0, all);
            expect.is("set 511 with kind " + kind, 1, () -> kinds.run(0, value, 0));
            expect.is("gives with set 511", 2, () -> kinds.gives(0));
        }
    }

    /** "those in one were made before it": the latest one can be a part, the next one can't. */
    private static void partsWereMadeBefore(Expect expect) {
        for (int[] way : WITH_PARTS) {
            for (int part = 1; part < way.length; part++) {
                SuccessKinds kinds = new SuccessKinds();
                kinds.make(3, 0, 0, 0, 0);
                kinds.make(3, 0, 0, 0, 0);
                int[] given = {way[0] == 11 ? 2 : 0, 0, 0, 0};
                for (int wrong : new int[] {-1, 2, 3, 89, 90, Integer.MIN_VALUE, Integer.MAX_VALUE}) {
                    given[way[part]] = wrong;
                    String what = "sort " + way[0] + " with part " + part + " of " + wrong;
                    expect.throwing(what, Expect.ARGUMENT, () -> make(kinds, way[0], given));
                }
                given[way[part]] = 1;
                expect.is("sort " + way[0] + " with part " + part + " of 1", 2, () -> make(kinds, way[0], given));
            }
        }
    }
}
