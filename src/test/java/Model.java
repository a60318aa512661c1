import java.util.ArrayList;
import java.util.EnumMap;
import java.util.HashMap;
import java.util.HashSet;
import java.util.List;
import java.util.Map;
import java.util.Set;
import java.util.TreeSet;

/**
 * The document once more, in other ways than the program's: trees in place of rows, sets of
 * Integers in place of bits, failures as exceptions, all sets found anew for every question.
 */
final class Model {
    enum Sort {
        VARIABLE, ATOM, NUMBER, NIL, SUM, DIFFERENCE, PAIR, HEAD, TAIL, CASE, CALL, LET, TRY, SAME, FAIL
    }

    record Expression(int number, Sort sort, int detail, List<Expression> parts) {
        Expression part(int i) {
            return parts.get(i);
        }

        int depth() {
            return parts.stream().mapToInt(part -> part.depth() + 1).max().orElse(0);
        }

        int size() {
            return 1 + parts.stream().mapToInt(Expression::size).sum();
        }
    }

    /** A kind, the number of a number, the two values of a pair. */
    record Value(int kind, int number, Value first, Value second) {
        static Value plain(int kind) {
            return new Value(kind, 0, null, null);
        }

        static Value number(int number) {
            return new Value(5 + Integer.signum(number), number, null, null);
        }

        static Value pair(Value first, Value second) {
            return new Value(8, 0, first, second);
        }

        boolean isNumber() {
            return kind >= 4 && kind <= 6;
        }

        void listInto(List<Integer> parts) {
            if (parts.size() >= 60) {
                return;
            }
            parts.add(isNumber() ? number : kind);
            if (kind == 8) {
                first.listInto(parts);
                second.listInto(parts);
            }
        }
    }

    @SuppressWarnings("serial")
    private static final class Failure extends RuntimeException {
    }

    @SuppressWarnings("serial")
    private static final class CutOff extends RuntimeException {
    }

    private static final Map<Sort, int[]> PLACES = new EnumMap<>(Sort.class);

    static {
        for (Sort two : List.of(Sort.SUM, Sort.DIFFERENCE, Sort.PAIR, Sort.TRY, Sort.SAME)) {
            PLACES.put(two, new int[] {0, 1});
        }
        PLACES.put(Sort.HEAD, new int[] {0});
        PLACES.put(Sort.TAIL, new int[] {0});
        PLACES.put(Sort.CASE, new int[] {0, 2, 3});
        PLACES.put(Sort.CALL, new int[] {1, 2});
        PLACES.put(Sort.LET, new int[] {1, 2});
    }

    private final List<Expression> expressions = new ArrayList<>();
    private final Map<Integer, Expression> bodies = new HashMap<>();
    private List<Integer> parts = new ArrayList<>();
    private int calls;
    private int steps;
    private int pairs;
    private int failures;

    private static int parameters(int function) {
        return function <= 2 ? 1 : 2;
    }

    private static void refuseUnless(boolean good) {
        if (!good) {
            throw new IllegalArgumentException();
        }
    }

    private Expression expression(int number) {
        refuseUnless(number >= 0 && number < expressions.size());
        return expressions.get(number);
    }

    private static void checkFunction(int function) {
        refuseUnless(function >= 0 && function <= 5);
    }

    int make(int sortNumber, int... given) {
        refuseUnless(sortNumber >= 0 && sortNumber <= 14);
        Sort sort = Sort.values()[sortNumber];
        int a = given[0];
        switch (sort) {
            case VARIABLE, ATOM -> refuseUnless(a >= 0 && a <= 3);
            case CASE -> refuseUnless(given[1] >= 0 && given[1] <= 511);
            case CALL -> checkFunction(a);
            case LET -> refuseUnless(a == 2 || a == 3);
            default -> { }
        }
        List<Expression> made = new ArrayList<>();
        for (int place : PLACES.getOrDefault(sort, new int[0])) {
            if (sort != Sort.CALL || made.size() < parameters(a)) {
                made.add(expression(given[place]));
            }
        }
        Expression whole = new Expression(expressions.size(), sort, sort == Sort.CASE ? given[1] : a, made);
        refuseUnless(whole.depth() <= 5 && whole.size() <= 60);
        if (expressions.size() == 90) {
            throw new IllegalStateException();
        }
        expressions.add(whole);
        return whole.number();
    }

    int define(int function, int body) {
        checkFunction(function);
        bodies.put(function, expression(body));
        return bodies.size();
    }

    int may(int function, int i) {
        checkFunction(function);
        refuseUnless(i >= 0 && i < parameters(function));
        return bits(learn().may(function, i));
    }

    int gives(int function) {
        checkFunction(function);
        return bits(learn().gives(function));
    }

    int hopeless(int function) {
        checkFunction(function);
        return hopelessCalls(function).size();
    }

    boolean isHopeless(int function, int expression) {
        checkFunction(function);
        return hopelessCalls(function).contains(expression(expression).number());
    }

    private Set<Integer> hopelessCalls(int function) {
        Known known = learn();
        known.come.clear();
        known.gave.clear();
        known.body(function, known.any(function));
        Set<Integer> hopeless = new HashSet<>(known.come);
        hopeless.removeAll(known.gave);
        return hopeless;
    }

    private static int bits(Set<Integer> set) {
        return set.stream().mapToInt(kind -> 1 << kind).sum();
    }

    /** All sets of one round are found from those of the round before. */
    private Known learn() {
        Known before = new Known();
        Known after = before.next();
        while (!after.sets.equals(before.sets)) {
            before = after;
            after = before.next();
        }
        return after;
    }

    private final class Known {
        final Map<String, Set<Integer>> sets = new HashMap<>();
        final Set<Integer> come = new HashSet<>();
        final Set<Integer> gave = new HashSet<>();

        Set<Integer> may(int function, int i) {
            return sets.getOrDefault("may " + function + " " + i, Set.of());
        }

        Set<Integer> gives(int function) {
            return sets.getOrDefault("gives " + function, Set.of());
        }

        Known next() {
            Known next = new Known();
            for (int function : bodies.keySet()) {
                next.sets.put("gives " + function, body(function, any(function)));
                for (int i = 0; i < parameters(function); i++) {
                    Set<Integer> may = new TreeSet<>();
                    for (int kind = 0; kind <= 8; kind++) {
                        Map<Integer, Set<Integer>> variables = any(function);
                        variables.put(i, Set.of(kind));
                        if (!body(function, variables).isEmpty()) {
                            may.add(kind);
                        }
                    }
                    next.sets.put("may " + function + " " + i, may);
                }
            }
            return next;
        }

        Map<Integer, Set<Integer>> any(int function) {
            Map<Integer, Set<Integer>> variables = new HashMap<>();
            for (int i = 0; i < parameters(function); i++) {
                variables.put(i, Set.of(0, 1, 2, 3, 4, 5, 6, 7, 8));
            }
            return variables;
        }

        Set<Integer> body(int function, Map<Integer, Set<Integer>> variables) {
            Expression body = bodies.get(function);
            return body == null ? Set.of() : of(body, variables);
        }

        private Set<Integer> of(Expression e, Map<Integer, Set<Integer>> variables) {
            return switch (e.sort()) {
                case VARIABLE -> variables.getOrDefault(e.detail(), Set.of());
                case ATOM -> Set.of(e.detail());
                case NUMBER -> Set.of(Value.number(e.detail()).kind());
                case NIL -> Set.of(7);
                case FAIL -> Set.of();
                case PAIR -> ifAll(e, variables, Set.of(8));
                case SAME -> ifAll(e, variables, Set.of(0, 1));
                case HEAD, TAIL -> of(e.part(0), variables).contains(8) ? any(0).get(0) : Set.of();
                case SUM, DIFFERENCE -> counted(e, of(e.part(0), variables), of(e.part(1), variables));
                case TRY -> union(of(e.part(0), variables), of(e.part(1), variables));
                case LET -> let(e, of(e.part(0), variables), variables);
                case CASE -> choose(e, variables);
                case CALL -> called(e, variables);
            };
        }

        private Set<Integer> ifAll(Expression e, Map<Integer, Set<Integer>> variables, Set<Integer> result) {
            boolean all = true;
            for (Expression part : e.parts()) {
                all &= !of(part, variables).isEmpty();
            }
            return all ? result : Set.of();
        }

        private Set<Integer> union(Set<Integer> one, Set<Integer> other) {
            Set<Integer> both = new TreeSet<>(one);
            both.addAll(other);
            return both;
        }

        private Set<Integer> counted(Expression e, Set<Integer> left, Set<Integer> right) {
            Set<Integer> result = new TreeSet<>();
            for (int one : left) {
                for (int other : right) {
                    if (one < 4 || one > 6 || other < 4 || other > 6) {
                        continue;
                    }
                    if (one == 5 && other == 5) {
                        result.add(5);
                    } else if (other == 5) {
                        result.add(one);
                    } else if (one == 5 && e.sort() == Sort.SUM) {
                        result.add(other);
                    } else {
                        result.addAll(Set.of(4, 5, 6));
                    }
                }
            }
            return result;
        }

        private Set<Integer> let(Expression e, Set<Integer> bound, Map<Integer, Set<Integer>> variables) {
            if (bound.isEmpty()) {
                return Set.of();
            }
            Map<Integer, Set<Integer>> inner = new HashMap<>(variables);
            inner.put(e.detail(), bound);
            return of(e.part(1), inner);
        }

        private Set<Integer> choose(Expression e, Map<Integer, Set<Integer>> variables) {
            Expression looked = e.part(0);
            Set<Integer> whole = of(looked, variables);
            Set<Integer> result = new TreeSet<>();
            for (int branch = 1; branch <= 2; branch++) {
                Set<Integer> here = new TreeSet<>();
                for (int kind : whole) {
                    if (((e.detail() >> kind & 1) == 1) == (branch == 1)) {
                        here.add(kind);
                    }
                }
                if (!here.isEmpty()) {
                    Map<Integer, Set<Integer>> inner = new HashMap<>(variables);
                    if (looked.sort() == Sort.VARIABLE) {
                        inner.put(looked.detail(), here);
                    }
                    result.addAll(of(e.part(branch), inner));
                }
            }
            return result;
        }

        private Set<Integer> called(Expression e, Map<Integer, Set<Integer>> variables) {
            come.add(e.number());
            boolean all = true;
            for (int i = 0; i < e.parts().size(); i++) {
                Set<Integer> common = new TreeSet<>(of(e.part(i), variables));
                common.retainAll(may(e.detail(), i));
                all &= !common.isEmpty();
            }
            Set<Integer> result = all ? gives(e.detail()) : Set.of();
            if (!result.isEmpty()) {
                gave.add(e.number());
            }
            return result;
        }
    }

    int run(int function, int x, int y) {
        checkFunction(function);
        List<Expression> arguments = new ArrayList<>(List.of(expression(x)));
        if (parameters(function) == 2) {
            arguments.add(expression(y));
        }
        calls = 0;
        steps = 0;
        pairs = 0;
        failures = 0;
        try {
            Value value = call(function, arguments, Map.of(), 0);
            parts = new ArrayList<>();
            value.listInto(parts);
            return value.kind();
        } catch (Failure e) {
            throw new UnsupportedOperationException();
        } catch (CutOff e) {
            throw new IllegalStateException();
        }
    }

    int part(int i) {
        if (i < 0 || i >= parts.size()) {
            throw new IndexOutOfBoundsException();
        }
        return parts.get(i);
    }

    int calls() {
        return calls;
    }

    private RuntimeException failure() {
        return ++failures == 7 ? new CutOff() : new Failure();
    }

    private Value call(int function, List<Expression> arguments, Map<Integer, Value> variables, int inside) {
        Map<Integer, Value> parameters = new HashMap<>();
        for (int i = 0; i < arguments.size(); i++) {
            parameters.put(i, value(arguments.get(i), variables, inside));
        }
        if (inside == 5) {
            throw new CutOff();
        }
        calls++;
        Expression body = bodies.get(function);
        if (body == null) {
            throw failure();
        }
        return value(body, parameters, inside + 1);
    }

    private Value value(Expression e, Map<Integer, Value> variables, int inside) {
        if (++steps > 200) {
            throw new CutOff();
        }
        switch (e.sort()) {
            case CALL:
                return call(e.detail(), e.parts(), variables, inside);
            case LET:
                Map<Integer, Value> inner = new HashMap<>(variables);
                inner.put(e.detail(), value(e.part(0), variables, inside));
                return value(e.part(1), inner, inside);
            case TRY:
                try {
                    return value(e.part(0), variables, inside);
                } catch (Failure failure) {
                    return value(e.part(1), variables, inside);
                }
            case CASE:
                int kind = value(e.part(0), variables, inside).kind();
                return value(e.part((e.detail() >> kind & 1) == 1 ? 1 : 2), variables, inside);
            default:
                List<Value> values = new ArrayList<>();
                for (Expression part : e.parts()) {
                    values.add(value(part, variables, inside));
                }
                return plain(e, values, variables);
        }
    }

    private Value plain(Expression e, List<Value> values, Map<Integer, Value> variables) {
        switch (e.sort()) {
            case VARIABLE:
                if (variables.containsKey(e.detail())) {
                    return variables.get(e.detail());
                }
                throw failure();
            case ATOM:
                return Value.plain(e.detail());
            case NUMBER:
                return Value.number(e.detail());
            case NIL:
                return Value.plain(7);
            case PAIR:
                if (++pairs > 40) {
                    throw new CutOff();
                }
                return Value.pair(values.get(0), values.get(1));
            case SAME:
                return Value.plain(values.get(0).equals(values.get(1)) ? 1 : 0);
            case SUM:
            case DIFFERENCE:
                if (values.get(0).isNumber() && values.get(1).isNumber()) {
                    int other = values.get(1).number();
                    return Value.number(values.get(0).number() + (e.sort() == Sort.SUM ? other : -other));
                }
                throw failure();
            case HEAD:
            case TAIL:
                if (values.get(0).kind() == 8) {
                    return e.sort() == Sort.HEAD ? values.get(0).first() : values.get(0).second();
                }
                throw failure();
            default:
                throw failure();
        }
    }
}
