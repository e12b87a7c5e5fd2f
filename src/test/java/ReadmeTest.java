import java.io.IOException;
import java.lang.reflect.Method;
import java.nio.file.Files;
import java.nio.file.Path;
import java.util.HashMap;
import java.util.Map;
import java.util.regex.Matcher;
import java.util.regex.Pattern;

/** Makes the calls of README.md's examples and compares the answers with those told there. */
public final class ReadmeTest {
    private static final Due DUE = new Due("ReadmeTest");
    private static final String NEW_STORE = "LogStore store = new LogStore();";
    private static final Pattern CALL = Pattern.compile(
        "(?:int (\\w+) = )?store\\.(\\w+)\\(([^)]*)\\); +// (-?\\d+|true|false)\\b.*");

    private static LogStore store;
    private static final Map<String, Integer> NAMES = new HashMap<>();

    public static void main(String[] args) throws IOException, ReflectiveOperationException {
        int examples = 0;
        boolean isExample = false;
        for (String line : Files.readAllLines(Path.of("README.md"))) {
            if (line.startsWith("```")) {
                isExample = line.equals("```java");
                examples += isExample ? 1 : 0;
            } else if (isExample) {
                make(line);
            }
        }
        DUE.promise("README.md");
        DUE.is("number of examples", examples, 2);
        DUE.end();
    }

    private static void make(String line) throws ReflectiveOperationException {
        if (line.equals(NEW_STORE)) {
            store = new LogStore();
            NAMES.clear();
            return;
        }
        DUE.promise("README.md \"" + line + "\"");
        Matcher call = CALL.matcher(line);
        DUE.is("a call with its answer", call.matches(), true);
        if (call.matches()) {
            int got = answer(call.group(2), call.group(3));
            DUE.is(call.group(2), got, number(call.group(4)));
            NAMES.put(call.group(1), got);
        }
    }

    private static int answer(String name, String inBrackets) throws ReflectiveOperationException {
        String[] words = inBrackets.isEmpty() ? new String[0] : inBrackets.split(", ");
        Object[] values = new Object[words.length];
        Class<?>[] types = new Class<?>[words.length];
        for (int i = 0; i < words.length; i++) {
            values[i] = NAMES.containsKey(words[i]) ? NAMES.get(words[i]) : number(words[i]);
            types[i] = int.class;
        }
        Method method = LogStore.class.getMethod(name, types);
        return number(String.valueOf(method.invoke(store, values)));
    }

    private static int number(String word) {
        if (word.equals("true") || word.equals("false")) {
            return word.equals("true") ? 1 : 0;
        }
        return Integer.parseInt(word);
    }
}
