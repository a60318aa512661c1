import java.io.IOException;
import java.lang.reflect.InvocationTargetException;
import java.lang.reflect.Method;
import java.nio.file.Files;
import java.nio.file.Path;
import java.util.HashMap;
import java.util.List;
import java.util.Map;
import java.util.regex.Matcher;
import java.util.regex.Pattern;

/** Each call of README.md's example answers what the comment behind it begins with. */
public final class ReadmeTest {
    private static final Pattern CALL =
            Pattern.compile("(?:int (\\w+) = )?kinds\\.(\\w+)\\(([^)]*)\\);\\s*// (\\S+?):?(?: .*)?");
    private static final int LEAST_CALLS = 20;

    private final Expect expect = new Expect();
    private final SuccessKinds kinds = new SuccessKinds();
    private final Map<String, Integer> names = new HashMap<>();

    public static void main(String[] args) throws IOException, ReflectiveOperationException {
        new ReadmeTest().goThrough(Files.readAllLines(Path.of("README.md")));
    }

    private void goThrough(List<String> lines) throws ReflectiveOperationException {
        int calls = 0;
        for (String line : lines) {
            Matcher call = CALL.matcher(line);
            if (call.matches()) {
                calls++;
                oneCall(line, call);
            } else {
                expect.is("left out: " + line, false, line.matches(".*kinds\\.\\w+\\(.*\\);.*"));
            }
        }
        expect.is("it has calls", true, calls >= LEAST_CALLS);
        expect.finish();
    }

    private void oneCall(String line, Matcher call) throws ReflectiveOperationException {
        int[] given = numbersOf(call.group(3));
        String answer = answerOf(call.group(2), given);
        if (call.group(1) != null) {
            names.put(call.group(1), Integer.valueOf(answer));
        }
        expect.compare(line, call.group(4), answer);
    }

    private int[] numbersOf(String arguments) {
        if (arguments.isEmpty()) {
            return new int[0];
        }
        String[] texts = arguments.split(", ");
        int[] numbers = new int[texts.length];
        for (int i = 0; i < texts.length; i++) {
            Integer named = names.get(texts[i]);
            numbers[i] = named != null ? named : Integer.parseInt(texts[i]);
        }
        return numbers;
    }

    private String answerOf(String name, int[] given) throws ReflectiveOperationException {
        Class<?>[] types = new Class<?>[given.length];
        Object[] arguments = new Object[given.length];
        for (int i = 0; i < given.length; i++) {
            types[i] = int.class;
            arguments[i] = given[i];
        }
        Method method = SuccessKinds.class.getMethod(name, types);
        try {
            return String.valueOf(method.invoke(kinds, arguments));
        } catch (InvocationTargetException e) {
            return e.getCause().getClass().getSimpleName();
        }
    }
}
