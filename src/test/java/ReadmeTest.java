import java.io.IOException;
import java.lang.reflect.Method;
import java.nio.file.Files;
import java.nio.file.Path;
import java.util.HashMap;
import java.util.HashSet;
import java.util.Map;
import java.util.Set;
import java.util.regex.Matcher;
import java.util.regex.Pattern;

/** README.md: each of its lines of Java answers what stands behind it; it is run from the project's folder. */
final class ReadmeTest {
    private static final Due DUE = new Due("ReadmeTest");
    private static final Pattern CALL =
            Pattern.compile("(?:int (\\w+) = )?x\\.(\\w+)\\((.*)\\); +// (-?\\w+)(?::.*)?");
    private static final Pattern FEED =
            Pattern.compile("for \\(char c : \"(.*)\"\\.toCharArray\\(\\)\\) \\{ x\\.feed\\(c\\); }");

    private final SamePlace x = new SamePlace();
    private final Map<String, Integer> names = new HashMap<>(Map.of("NONE", SamePlace.NONE, "BAD", SamePlace.BAD));
    private final Set<String> shown = new HashSet<>(Set.of("feed"));

    public static void main(String[] args) throws IOException, ReflectiveOperationException {
        new ReadmeTest().run(Files.readString(Path.of("README.md")));
        DUE.finish();
    }

    private void run(String readme) throws ReflectiveOperationException {
        Matcher blocks = Pattern.compile("(?s)```java\n(.*?)```").matcher(readme);
        while (blocks.find()) {
            for (String line : blocks.group(1).split("\n")) {
                stand(line);
            }
        }
        for (Method m : SamePlace.class.getMethods()) {
            if (m.getDeclaringClass() == SamePlace.class) {
                String name = m.getName();
                DUE.holds("README.md shows " + name, shown.contains(name) || readme.contains(name + "("));
            }
        }
        DUE.holds("README.md tells how the tests are run", readme.contains(".ci/run"));
    }

    private void stand(String line) throws ReflectiveOperationException {
        Matcher call = CALL.matcher(line);
        Matcher feed = FEED.matcher(line);
        if (call.matches()) {
            long got = answer(call.group(2), call.group(3));
            if (call.group(1) != null) {
                names.put(call.group(1), (int) got);
            }
            DUE.is(line, got, number(call.group(4)));
            shown.add(call.group(2));
        } else if (feed.matches()) {
            Due.feed(x, feed.group(1));
        } else {
            DUE.holds("a line that can be read: " + line, line.equals("SamePlace x = new SamePlace();"));
        }
    }

    private long answer(String name, String list) throws ReflectiveOperationException {
        String[] words = list.isEmpty() ? new String[0] : list.split(", ");
        Object[] numbers = new Object[words.length];
        Class<?>[] types = new Class<?>[words.length];
        for (int i = 0; i < words.length; i++) {
            numbers[i] = number(words[i]);
            types[i] = int.class;
        }
        return ((Number) SamePlace.class.getMethod(name, types).invoke(x, numbers)).longValue();
    }

    private int number(String word) {
        Integer named = names.get(word);
        return named != null ? named : Integer.parseInt(word);
    }
}
