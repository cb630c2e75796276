import java.lang.reflect.InvocationTargetException;
import java.lang.reflect.Method;
import java.nio.charset.StandardCharsets;
import java.nio.file.Files;
import java.nio.file.Path;
import java.util.HashMap;
import java.util.Map;
import java.util.regex.Matcher;
import java.util.regex.Pattern;

/** The calls in README.md answer what the comments behind them say. */
public final class ReadmeTest {
    private static final Path README = Path.of("README.md");
    private static final String NEW_DECK = "FerryDeck deck = new FerryDeck();";
    private static final Pattern CALL = Pattern.compile(
            "(?:int (\\w+) = )?deck\\.(\\w+)\\(([^()]*)\\); +// (-?\\w+)(?:: .*)?");
    private static final int LEAST_CALLS = 40;

    private static int wrong = 0;
    private static int calls = 0;

    private FerryDeck deck;
    private final Map<String, Long> variables = new HashMap<>();

    private static void fail(int line, String text, String why) {
        wrong++;
        System.out.println("README.md, line " + line + ": " + text + " " + why);
    }

    private long value(String word) throws ReflectiveOperationException {
        if (variables.containsKey(word)) return variables.get(word);
        if (word.equals("true") || word.equals("false")) return word.equals("true") ? 1 : 0;
        if (Character.isUpperCase(word.charAt(0))) return FerryDeck.class.getField(word).getInt(null);
        return Long.parseLong(word);
    }

    private long answer(String name, String arguments) throws ReflectiveOperationException {
        String[] words = arguments.isBlank() ? new String[0] : arguments.split(", ");
        for (Method m : FerryDeck.class.getMethods()) {
            if (!m.getName().equals(name) || m.getParameterCount() != words.length) continue;
            Object[] values = new Object[words.length];
            for (int i = 0; i < words.length; i++) {
                long value = value(words[i]);
                if (m.getParameterTypes()[i] == long.class) values[i] = value;
                else values[i] = (int) value;
            }
            Object got = m.invoke(deck, values);
            return got instanceof Boolean ? (Boolean) got ? 1 : 0 : ((Number) got).longValue();
        }
        throw new NoSuchMethodException(name);
    }

    private void play(int number, String line) {
        if (line.isBlank()) return;
        if (line.equals(NEW_DECK)) {
            deck = new FerryDeck();
            return;
        }
        Matcher call = CALL.matcher(line);
        if (deck == null || !call.matches()) {
            fail(number, line, "is no call with its answer");
            return;
        }
        calls++;
        try {
            long got = answer(call.group(2), call.group(3));
            if (call.group(1) != null) variables.put(call.group(1), got);
            if (got != value(call.group(4))) fail(number, line, "answered " + got);
        } catch (InvocationTargetException e) {
            fail(number, line, "threw " + e.getCause());
        } catch (ReflectiveOperationException | NumberFormatException e) {
            fail(number, line, "can't be called: " + e);
        }
    }

    public static void main(String[] args) throws Exception {
        ReadmeTest example = null;
        int number = 0;
        for (String line : Files.readAllLines(README, StandardCharsets.UTF_8)) {
            number++;
            if (line.equals("```java")) example = new ReadmeTest();
            else if (line.equals("```")) example = null;
            else if (example != null) example.play(number, line);
        }
        if (calls < LEAST_CALLS) fail(number, "", "only " + calls + " calls were found");
        System.out.println(wrong == 0 ? "all " + calls + " answers are as due" : wrong + " lines are wrong");
        if (wrong > 0) System.exit(1);
    }
}
