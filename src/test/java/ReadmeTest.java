import java.io.IOException;
import java.lang.reflect.Method;
import java.nio.file.Files;
import java.nio.file.Path;
import java.util.ArrayList;
import java.util.HashMap;
import java.util.List;
import java.util.Map;
import java.util.regex.Matcher;
import java.util.regex.Pattern;

/** README.md tells each call of the class, and its example's answers are the program's; it runs in the project's folder. */
final class ReadmeTest {
    private static final Path README = Path.of("README.md");
    private static final Pattern EXAMPLE = Pattern.compile("(?s)```java\n(.*?)```");
    private static final Pattern ASKED = Pattern.compile("house\\.(\\w+)\\((.*)\\); +// (true|false|-?\\d+)(:.*)?");
    private static final Pattern NAMED = Pattern.compile("int (\\w+) = (\\d+);.*");
    private static final Pattern TERM = Pattern.compile("(?:(\\d+) \\* )?(\\w+|TierHouse\\.NONE)");

    private static final Map<String, Integer> NAMES = new HashMap<>(Map.of("TierHouse.NONE", TierHouse.NONE));

    public static void main(String[] args) throws IOException, ReflectiveOperationException {
        String readme = Files.readString(README);
        for (Method method : TierHouse.class.getMethods()) {
            if (method.getDeclaringClass() == TierHouse.class) {
                String call = "`" + method.getName() + "(";
                Check.same("README.md tells " + call, readme.contains(call), true);
            }
        }
        Matcher example = EXAMPLE.matcher(readme);
        Check.same("README.md has an example", example.find(), true);
        run(example.group(1));
        Check.close("the readme");
    }

    private static void run(String example) throws ReflectiveOperationException {
        TierHouse house = new TierHouse();
        for (String line : example.split("\n")) {
            Matcher asked = ASKED.matcher(line);
            Matcher named = NAMED.matcher(line);
            if (named.matches()) {
                NAMES.put(named.group(1), Integer.parseInt(named.group(2)));
            } else if (asked.matches()) {
                Check.same(line, answer(house, asked.group(1), asked.group(2)).equals(asked.group(3)), true);
            } else {
                Check.same("no call: " + line, line.startsWith("house."), false);
            }
        }
    }

    private static String answer(TierHouse house, String name, String told) throws ReflectiveOperationException {
        List<Object> values = new ArrayList<>();
        for (String text : told.split(", ")) {
            values.add(text.equals("true") || text.equals("false") ? (Object) text.equals("true") : (Object) sum(text));
        }
        for (Method method : TierHouse.class.getMethods()) {
            if (method.getName().equals(name) && method.getParameterCount() == values.size()) {
                return String.valueOf(method.invoke(house, values.toArray()));
            }
        }
        return "no such call";
    }

    /** Of the few ways in which the example writes a number. */
    private static int sum(String text) {
        int sum = 0;
        for (String part : text.split(" \\+ ")) {
            Matcher term = TERM.matcher(part);
            Check.same("a number: " + part, term.matches(), true);
            sum += (term.group(1) == null ? 1 : Integer.parseInt(term.group(1))) * valueOf(term.group(2));
        }
        return sum;
    }

    private static int valueOf(String word) {
        return NAMES.containsKey(word) ? NAMES.get(word) : Integer.parseInt(word);
    }
}
