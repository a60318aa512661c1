import java.util.Arrays;

/**
 * A small language without types: what can be said of its functions before anything runs, and a
 * machine that runs them.
 */
public final class SuccessKinds {
    private static final int VARIABLE = 0;
    private static final int ATOM = 1;
    private static final int NUMBER = 2;
    private static final int NIL = 3;
    private static final int SUM = 4;
    private static final int DIFFERENCE = 5;
    private static final int PAIR = 6;
    private static final int HEAD = 7;
    private static final int TAIL = 8;
    private static final int CASE = 9;
    private static final int CALL = 10;
    private static final int LET = 11;
    private static final int TRY = 12;
    private static final int SAME = 13;
    private static final int FAIL = 14;
    private static final int SORTS = 15;

    private static final int KIND_BELOW = 4;
    private static final int KIND_ZERO = 5;
    private static final int KIND_ABOVE = 6;
    private static final int KIND_NIL = 7;
    private static final int KIND_PAIR = 8;
    private static final int KINDS = 9;

    private static final int ATOMS = 4;
    private static final int VARIABLES = 4;
    private static final int FIRST_LET_VARIABLE = 2;
    private static final int FUNCTIONS = 6;
    private static final int FIRST_WITH_TWO_PARAMETERS = 3;
    private static final int MOST_PARAMETERS = 2;

    /** Stands for a part or a body that is not there. */
    private static final int NONE = -1;

    private final Program program;
    private final Knowledge knowledge;
    private final Machine machine;

    public SuccessKinds() {
        program = new Program();
        knowledge = new Knowledge(program);
        machine = new Machine(program);
    }

    public int make(int sort, int a, int b, int c, int d) throws IllegalArgumentException, IllegalStateException {
        if (!program.draft(sort, a, b, c, d)) {
            throw new IllegalArgumentException("no such expression can be made");
        }
        if (program.isFull()) {
            throw new IllegalStateException("there are as many expressions as there may be");
        }
        return program.keepDraft();
    }

    public int define(int function, int body) throws IllegalArgumentException {
        checkFunction(function);
        checkExpression(body);
        program.setBody(function, body);
        knowledge.forget();
        return program.countBodies();
    }

    public int may(int function, int i) throws IllegalArgumentException {
        checkFunction(function);
        if (i < 0 || i >= parametersOf(function)) {
            throw new IllegalArgumentException("no such parameter");
        }
        knowledge.learn();
        return knowledge.mayOf(function, i);
    }

    public int gives(int function) throws IllegalArgumentException {
        checkFunction(function);
        knowledge.learn();
        return knowledge.givesOf(function);
    }

    public int hopeless(int function) throws IllegalArgumentException {
        checkFunction(function);
        knowledge.learn();
        return knowledge.countHopeless(function);
    }

    public boolean isHopeless(int function, int expression) throws IllegalArgumentException {
        checkFunction(function);
        checkExpression(expression);
        knowledge.learn();
        return knowledge.isHopelessCall(function, expression);
    }

    public int run(int function, int x, int y)
            throws IllegalArgumentException, UnsupportedOperationException, IllegalStateException {
        checkFunction(function);
        checkExpression(x);
        if (parametersOf(function) == 2) {
            checkExpression(y);
        }
        long value = machine.start(function, x, y);
        if (value == Machine.FAILED) {
            throw new UnsupportedOperationException("the run failed");
        }
        if (value == Machine.CUT_OFF) {
            throw new IllegalStateException("the run was cut off");
        }
        machine.keepParts(value);
        return Machine.kindOf(value);
    }

    public int part(int i) throws IndexOutOfBoundsException {
        if (i < 0 || i >= machine.partCount) {
            throw new IndexOutOfBoundsException("no such part");
        }
        return machine.parts[i];
    }

    public int calls() {
        return machine.callsMade;
    }

    private static void checkFunction(int function) {
        if (!isFunction(function)) {
            throw new IllegalArgumentException("no such function");
        }
    }

    private void checkExpression(int expression) {
        if (!program.isExpression(expression)) {
            throw new IllegalArgumentException("no such expression");
        }
    }

    private static boolean isFunction(int function) {
        return function >= 0 && function < FUNCTIONS;
    }

    private static int parametersOf(int function) {
        return function < FIRST_WITH_TWO_PARAMETERS ? 1 : 2;
    }

    /** The expressions, a row each, and the functions' bodies. */
    private static final class Program {
        static final int MOST_EXPRESSIONS = 90;
        private static final int DEEPEST = 5;
        private static final int GREATEST = 60;

        /** How many parts an expression of each sort has; of a CALL the function tells it. */
        private static final int[] PARTS = {0, 0, 0, 0, 2, 2, 2, 1, 1, 3, 0, 2, 2, 2, 0};

        // One row more than there may be expressions: a draft needs a place also when all are made.
        final int[] sorts = new int[MOST_EXPRESSIONS + 1];
        /** The variable, atom, number, function, or a CASE's set; of other sorts it means nothing. */
        final int[] details = new int[MOST_EXPRESSIONS + 1];
        final int[] firsts = new int[MOST_EXPRESSIONS + 1];
        final int[] seconds = new int[MOST_EXPRESSIONS + 1];
        final int[] thirds = new int[MOST_EXPRESSIONS + 1];
        final int[] depths = new int[MOST_EXPRESSIONS + 1];
        final int[] sizes = new int[MOST_EXPRESSIONS + 1];
        final int[] bodies = new int[FUNCTIONS];
        int count;

        Program() {
            Arrays.fill(bodies, NONE);
        }

        boolean isExpression(int expression) {
            return expression >= 0 && expression < count;
        }

        boolean isFull() {
            return count >= MOST_EXPRESSIONS;
        }

        void setBody(int function, int body) {
            bodies[function] = body;
        }

        int countBodies() {
            int found = 0;
            for (int function = 0; function < FUNCTIONS; function++) {
                if (bodies[function] != NONE) {
                    found++;
                }
            }
            return found;
        }

        /** Fills the row behind the last expression, which does not count yet; tells if it may. */
        boolean draft(int sort, int a, int b, int c, int d) {
            if (sort < 0 || sort >= SORTS) {
                return false;
            }
            int detail = sort == CASE ? b : a;
            if (!detailFits(sort, detail)) {
                return false;
            }
            int parts = sort == CALL ? parametersOf(detail) : PARTS[sort];
            boolean partsFollowDetail = sort == CALL || sort == LET;
            int first = partsFollowDetail ? b : a;
            int second = partsFollowDetail || sort == CASE ? c : b;
            if (!partsExist(parts, first, second, d)) {
                return false;
            }
            sorts[count] = sort;
            details[count] = detail;
            firsts[count] = parts >= 1 ? first : NONE;
            seconds[count] = parts >= 2 ? second : NONE;
            thirds[count] = parts >= 3 ? d : NONE;
            measure(count);
            return depths[count] <= DEEPEST && sizes[count] <= GREATEST;
        }

        int keepDraft() {
            int made = count;
            count++;
            return made;
        }

        private static boolean detailFits(int sort, int detail) {
            switch (sort) {
                case VARIABLE:
                    return detail >= 0 && detail < VARIABLES;
                case ATOM:
                    return detail >= 0 && detail < ATOMS;
                case CASE:
                    return detail >= 0 && detail <= Knowledge.ALL;
                case CALL:
                    return isFunction(detail);
                case LET:
                    return detail >= FIRST_LET_VARIABLE && detail < VARIABLES;
                default:
                    return true;
            }
        }

        private boolean partsExist(int parts, int first, int second, int third) {
            return (parts < 1 || isExpression(first))
                    && (parts < 2 || isExpression(second))
                    && (parts < 3 || isExpression(third));
        }

        private void measure(int row) {
            int deepest = Math.max(depthOf(firsts[row]), Math.max(depthOf(seconds[row]), depthOf(thirds[row])));
            depths[row] = deepest + 1;
            sizes[row] = 1 + sizeOf(firsts[row]) + sizeOf(seconds[row]) + sizeOf(thirds[row]);
        }

        private int depthOf(int part) {
            return part == NONE ? -1 : depths[part];
        }

        private int sizeOf(int part) {
            return part == NONE ? 0 : sizes[part];
        }
    }

    /** What is known of the functions before anything runs. */
    private static final class Knowledge {
        static final int ALL = (1 << KINDS) - 1;
        private static final int NOTHING = 0;
        private static final int NUMBERS = (1 << KIND_BELOW) | (1 << KIND_ZERO) | (1 << KIND_ABOVE);
        private static final int BOTH_ANSWERS = 3;

        // Every round but the last adds a kind to one of the sets, so there can't be more rounds.
        private static final int MOST_ROUNDS = FUNCTIONS * (MOST_PARAMETERS + 1) * KINDS + 1;

        private static final int NOT_COME_TO = 0;
        private static final int GAVE_NOTHING = 1;
        private static final int GAVE_SOMETHING = 2;

        private final Program program;
        private final int[] mays = new int[FUNCTIONS * MOST_PARAMETERS];
        private final int[] givens = new int[FUNCTIONS];
        /** For each expression what it did, as a call, in the latest walk through a body. */
        private final int[] outcomes = new int[Program.MOST_EXPRESSIONS];
        private boolean fresh;

        Knowledge(Program program) {
            this.program = program;
        }

        void forget() {
            fresh = false;
        }

        /** Lets the sets grow from nothing until they stay: so they become the least ones. */
        void learn() {
            if (fresh) {
                return;
            }
            Arrays.fill(mays, NOTHING);
            Arrays.fill(givens, NOTHING);
            boolean grown = true;
            for (int round = 0; grown && round < MOST_ROUNDS; round++) {
                grown = false;
                for (int function = 0; function < FUNCTIONS; function++) {
                    grown |= growGives(function);
                    for (int parameter = 0; parameter < parametersOf(function); parameter++) {
                        grown |= growMay(function, parameter);
                    }
                }
            }
            fresh = true;
        }

        int mayOf(int function, int parameter) {
            return mays[function * MOST_PARAMETERS + parameter];
        }

        int givesOf(int function) {
            return givens[function];
        }

        int countHopeless(int function) {
            walkBody(function);
            int found = 0;
            for (int expression = 0; expression < outcomes.length; expression++) {
                if (outcomes[expression] == GAVE_NOTHING) {
                    found++;
                }
            }
            return found;
        }

        boolean isHopelessCall(int function, int expression) {
            walkBody(function);
            return outcomes[expression] == GAVE_NOTHING;
        }

        private void walkBody(int function) {
            Arrays.fill(outcomes, NOT_COME_TO);
            bodyKinds(function, anyArguments(function));
        }

        private boolean growGives(int function) {
            int before = givens[function];
            givens[function] = bodyKinds(function, anyArguments(function));
            return givens[function] != before;
        }

        private boolean growMay(int function, int parameter) {
            int place = function * MOST_PARAMETERS + parameter;
            int before = mays[place];
            for (int kind = 0; kind < KINDS; kind++) {
                long sets = with(anyArguments(function), parameter, 1 << kind);
                if (!has(before, kind) && bodyKinds(function, sets) != NOTHING) {
                    mays[place] |= 1 << kind;
                }
            }
            return mays[place] != before;
        }

        private int bodyKinds(int function, long sets) {
            int body = program.bodies[function];
            return body == NONE ? NOTHING : kinds(body, sets);
        }

        // The four variables' sets travel together in one long, so that a narrower set
        // holds just for the part it is handed to, and nothing has to be put back.
        private static long anyArguments(int function) {
            long sets = with(0L, 0, ALL);
            return parametersOf(function) == 2 ? with(sets, 1, ALL) : sets;
        }

        private static long with(long sets, int variable, int set) {
            int shift = variable * KINDS;
            return (sets & ~((long) ALL << shift)) | ((long) set << shift);
        }

        private static int setOf(long sets, int variable) {
            return (int) (sets >>> (variable * KINDS)) & ALL;
        }

        static boolean has(int set, int kind) {
            return ((set >> kind) & 1) != 0;
        }

        /** What an expression gives. It calls itself no deeper than make lets an expression be. */
        private int kinds(int expression, long sets) {
            int detail = program.details[expression];
            switch (program.sorts[expression]) {
                case VARIABLE:
                    return setOf(sets, detail);
                case ATOM:
                    return 1 << detail;
                case NUMBER:
                    return 1 << Machine.kindOfNumber(detail);
                case NIL:
                    return 1 << KIND_NIL;
                case HEAD:
                case TAIL:
                    return has(kinds(program.firsts[expression], sets), KIND_PAIR) ? ALL : NOTHING;
                case CASE:
                    return caseKinds(expression, sets);
                case CALL:
                    return callKinds(expression, sets);
                case LET:
                    return letKinds(expression, sets);
                case FAIL:
                    return NOTHING;
                default:
                    return kindsOfTwo(expression, sets);
            }
        }

        private int kindsOfTwo(int expression, long sets) {
            int left = kinds(program.firsts[expression], sets);
            int right = kinds(program.seconds[expression], sets);
            int sort = program.sorts[expression];
            if (sort == TRY) {
                return left | right;
            }
            if (left == NOTHING || right == NOTHING) {
                return NOTHING;
            }
            if (sort == PAIR) {
                return 1 << KIND_PAIR;
            }
            return sort == SAME ? BOTH_ANSWERS : numberKinds(sort, left, right);
        }

        private static int numberKinds(int sort, int left, int right) {
            int result = NOTHING;
            for (int one = KIND_BELOW; one <= KIND_ABOVE; one++) {
                for (int other = KIND_BELOW; other <= KIND_ABOVE; other++) {
                    if (has(left, one) && has(right, other)) {
                        result |= numberKindsOf(sort, one, other);
                    }
                }
            }
            return result;
        }

        private static int numberKindsOf(int sort, int one, int other) {
            if (other == KIND_ZERO) {
                return 1 << one;
            }
            return sort == SUM && one == KIND_ZERO ? 1 << other : NUMBERS;
        }

        private int caseKinds(int expression, long sets) {
            int looked = program.firsts[expression];
            int set = program.details[expression];
            int whole = kinds(looked, sets);
            int inside = whole & set;
            int outside = whole & ~set;
            int result = NOTHING;
            if (inside != NOTHING) {
                result |= kinds(program.seconds[expression], narrowed(sets, looked, inside));
            }
            if (outside != NOTHING) {
                result |= kinds(program.thirds[expression], narrowed(sets, looked, outside));
            }
            return result;
        }

        private long narrowed(long sets, int looked, int set) {
            return program.sorts[looked] == VARIABLE ? with(sets, program.details[looked], set) : sets;
        }

        private int callKinds(int expression, long sets) {
            int function = program.details[expression];
            boolean succeeds = (kinds(program.firsts[expression], sets) & mays[function * MOST_PARAMETERS]) != NOTHING;
            if (parametersOf(function) == 2) {
                int second = kinds(program.seconds[expression], sets);
                succeeds &= (second & mays[function * MOST_PARAMETERS + 1]) != NOTHING;
            }
            int result = succeeds ? givens[function] : NOTHING;
            note(expression, result);
            return result;
        }

        private void note(int call, int result) {
            if (result != NOTHING) {
                outcomes[call] = GAVE_SOMETHING;
            } else if (outcomes[call] == NOT_COME_TO) {
                outcomes[call] = GAVE_NOTHING;
            }
        }

        private int letKinds(int expression, long sets) {
            int bound = kinds(program.firsts[expression], sets);
            if (bound == NOTHING) {
                return NOTHING;
            }
            return kinds(program.seconds[expression], with(sets, program.details[expression], bound));
        }
    }

    /**
     * Runs functions. A value is a long: its kind in the upper half; in the lower half a number's
     * number or a pair's place among the run's different pairs. Equal pairs share a place, so two
     * values are the same just if their longs are, however many parts a pair unfolds to.
     */
    private static final class Machine {
        static final long FAILED = -1L;
        static final long CUT_OFF = -2L;
        private static final long NOTHING_GIVEN = -3L;

        private static final int MOST_OPEN_CALLS = 5;
        private static final int MOST_STEPS = 200;
        private static final int MOST_PAIRS = 40;
        private static final int MOST_FAILURES = 6;
        private static final int MOST_PARTS = 60;
        private static final long LOWER_HALF = 0xFFFFFFFFL;

        final int[] parts = new int[MOST_PARTS];
        int partCount;
        int callsMade;

        private final Program program;
        /** Four variables for the arguments of the run, and four for each call that may be open. */
        private final long[] variables = new long[(MOST_OPEN_CALLS + 1) * VARIABLES];
        private final long[] heads = new long[MOST_PAIRS];
        private final long[] tails = new long[MOST_PAIRS];
        // Each part that is taken from it puts back at most two.
        private final long[] waiting = new long[MOST_PARTS + 1];
        private int differentPairs;
        private int pairsMade;
        private int steps;
        private int failures;

        Machine(Program program) {
            this.program = program;
        }

        static int kindOf(long value) {
            return (int) (value >> 32);
        }

        static int kindOfNumber(int number) {
            if (number == 0) {
                return KIND_ZERO;
            }
            return number < 0 ? KIND_BELOW : KIND_ABOVE;
        }

        /** The value, or FAILED or CUT_OFF, which are no values and are below 0. */
        long start(int function, int x, int y) {
            callsMade = 0;
            differentPairs = 0;
            pairsMade = 0;
            steps = 0;
            failures = 0;
            openFrame(0, NOTHING_GIVEN, NOTHING_GIVEN);
            return callWith(function, x, y, 0);
        }

        /** Keeps the first parts, as the next run will use the pairs' places again. */
        void keepParts(long value) {
            waiting[0] = value;
            int open = 1;
            int kept = 0;
            while (open > 0 && kept < MOST_PARTS) {
                open--;
                long next = waiting[open];
                parts[kept] = isNumber(next) ? detailOf(next) : kindOf(next);
                kept++;
                if (isPair(next)) {
                    waiting[open] = tails[detailOf(next)];
                    waiting[open + 1] = heads[detailOf(next)];
                    open += 2;
                }
            }
            partCount = kept;
        }

        private void openFrame(int frame, long first, long second) {
            int start = frame * VARIABLES;
            variables[start] = first;
            variables[start + 1] = second;
            variables[start + 2] = NOTHING_GIVEN;
            variables[start + 3] = NOTHING_GIVEN;
        }

        /**
         * Works out an expression of the innermost open call. It calls itself no deeper than make
         * lets an expression be, for each of the calls that may be open.
         */
        private long workOut(int expression, int openCalls) {
            if (steps >= MOST_STEPS) {
                return CUT_OFF;
            }
            steps++;
            int detail = program.details[expression];
            switch (program.sorts[expression]) {
                case VARIABLE:
                    return variable(detail, openCalls);
                case ATOM:
                    return value(detail, 0);
                case NUMBER:
                    return number(detail);
                case NIL:
                    return value(KIND_NIL, 0);
                case HEAD:
                case TAIL:
                    return headOrTail(expression, openCalls);
                case CASE:
                    return oneOfCase(expression, openCalls);
                case CALL:
                    return callWith(detail, program.firsts[expression], program.seconds[expression], openCalls);
                case LET:
                    return letIn(expression, openCalls);
                case TRY:
                    return firstOrElse(expression, openCalls);
                case FAIL:
                    return fail();
                default:
                    return fromTwo(expression, openCalls);
            }
        }

        private long fail() {
            failures++;
            return failures > MOST_FAILURES ? CUT_OFF : FAILED;
        }

        private long variable(int variable, int openCalls) {
            long given = variables[openCalls * VARIABLES + variable];
            return given == NOTHING_GIVEN ? fail() : given;
        }

        private long headOrTail(int expression, int openCalls) {
            long whole = workOut(program.firsts[expression], openCalls);
            if (whole < 0) {
                return whole;
            }
            if (!isPair(whole)) {
                return fail();
            }
            return program.sorts[expression] == HEAD ? heads[detailOf(whole)] : tails[detailOf(whole)];
        }

        private long oneOfCase(int expression, int openCalls) {
            long looked = workOut(program.firsts[expression], openCalls);
            if (looked < 0) {
                return looked;
            }
            boolean inside = Knowledge.has(program.details[expression], kindOf(looked));
            return workOut(inside ? program.seconds[expression] : program.thirds[expression], openCalls);
        }

        private long callWith(int function, int x, int y, int openCalls) {
            long first = workOut(x, openCalls);
            if (first < 0) {
                return first;
            }
            long second = NOTHING_GIVEN;
            if (parametersOf(function) == 2) {
                second = workOut(y, openCalls);
                if (second < 0) {
                    return second;
                }
            }
            if (openCalls >= MOST_OPEN_CALLS) {
                return CUT_OFF;
            }
            callsMade++;
            int body = program.bodies[function];
            if (body == NONE) {
                return fail();
            }
            openFrame(openCalls + 1, first, second);
            return workOut(body, openCalls + 1);
        }

        private long letIn(int expression, int openCalls) {
            long bound = workOut(program.firsts[expression], openCalls);
            if (bound < 0) {
                return bound;
            }
            int place = openCalls * VARIABLES + program.details[expression];
            long before = variables[place];
            variables[place] = bound;
            long result = workOut(program.seconds[expression], openCalls);
            variables[place] = before;
            return result;
        }

        private long firstOrElse(int expression, int openCalls) {
            long result = workOut(program.firsts[expression], openCalls);
            return result == FAILED ? workOut(program.seconds[expression], openCalls) : result;
        }

        private long fromTwo(int expression, int openCalls) {
            long left = workOut(program.firsts[expression], openCalls);
            if (left < 0) {
                return left;
            }
            long right = workOut(program.seconds[expression], openCalls);
            if (right < 0) {
                return right;
            }
            int sort = program.sorts[expression];
            if (sort == PAIR) {
                return pair(left, right);
            }
            return sort == SAME ? value(left == right ? 1 : 0, 0) : calculate(sort, left, right);
        }

        private long calculate(int sort, long left, long right) {
            if (!isNumber(left) || !isNumber(right)) {
                return fail();
            }
            int one = detailOf(left);
            int other = detailOf(right);
            return number(sort == DIFFERENCE ? one - other : one + other);
        }

        private long pair(long head, long tail) {
            if (pairsMade >= MOST_PAIRS) {
                return CUT_OFF;
            }
            pairsMade++;
            for (int place = 0; place < differentPairs; place++) {
                if (heads[place] == head && tails[place] == tail) {
                    return value(KIND_PAIR, place);
                }
            }
            int place = differentPairs;
            heads[place] = head;
            tails[place] = tail;
            differentPairs++;
            return value(KIND_PAIR, place);
        }

        private static long number(int number) {
            return value(kindOfNumber(number), number);
        }

        private static long value(int kind, int detail) {
            return ((long) kind << 32) | (detail & LOWER_HALF);
        }

        private static int detailOf(long value) {
            return (int) value;
        }

        private static boolean isNumber(long value) {
            return kindOf(value) >= KIND_BELOW && kindOf(value) <= KIND_ABOVE;
        }

        private static boolean isPair(long value) {
            return kindOf(value) == KIND_PAIR;
        }
    }
}
