import java.io.IOException;
import java.lang.reflect.Method;
import java.lang.reflect.Modifier;
import java.nio.file.Files;
import java.nio.file.Path;
import java.util.List;
import java.util.Set;
import java.util.TreeSet;
import java.util.regex.Matcher;
import java.util.regex.Pattern;
import java.util.stream.Stream;

/**
 * What README.md shows of the use of the class is what the class answers: every line of its Java pieces
 * makes an object, or is a call with the answer behind it, and each call of the face is shown.
 */
public final class AntennaHallReadme {
    private static final Path README = Path.of("README.md");
    private static final Path TESTS = Path.of("src/test/java");
    private static final String MAKES = "AntennaHall hall = new AntennaHall();";
    private static final Pattern CALL = Pattern.compile("hall\\.(\\w+)\\(([^()]*)\\); +// (-?\\d+)(: .+)?");
    private static final Pattern CONSTANT = Pattern.compile("`([A-Z]+)`\\s\\((-?\\d+)\\)");
    private static final Pattern TEST = Pattern.compile("- `(\\w+)`: .*");

    private static final Set<String> shown = new TreeSet<>();
    private static AntennaHall hall;
    private static int wrong;

    private AntennaHallReadme() {
    }

    private static void demand(boolean holds, String what) {
        if (!holds) {
            wrong++;
            System.out.println("README.md: " + what);
        }
    }

    private static Method methodOf(String name) {
        for (Method method : AntennaHall.class.getDeclaredMethods()) {
            if (method.getName().equals(name) && Modifier.isPublic(method.getModifiers())) {
                return method;
            }
        }
        return null;
    }

    private static Object[] argumentsOf(String list) {
        if (list.isEmpty()) {
            return new Object[0];
        }
        return Stream.of(list.split(", ")).map(AntennaHallReadme::argumentOf).toArray();
    }

    private static Object argumentOf(String word) {
        if (word.equals("true") || word.equals("false")) {
            return Boolean.valueOf(word);
        }
        return Integer.valueOf(word);
    }

    private static void call(int number, Matcher line) throws ReflectiveOperationException {
        String told = "line " + number + ": " + line.group(1) + "(" + line.group(2) + ")";
        Method method = methodOf(line.group(1));
        demand(method != null, told + " is no call of the face");
        demand(hall != null, told + " has no object");
        if (method != null && hall != null) {
            shown.add(method.getName());
            long got = ((Number) method.invoke(hall, argumentsOf(line.group(2)))).longValue();
            demand(got == Long.parseLong(line.group(3)), told + " answered " + got + ", shown is " + line.group(3));
        }
    }

    private static void pieces(List<String> lines) throws ReflectiveOperationException {
        boolean inside = false;
        for (int number = 1; number <= lines.size(); number++) {
            String line = lines.get(number - 1);
            Matcher call = CALL.matcher(line);
            if (line.startsWith("```")) {
                inside = line.equals("```java");
                hall = null;
            } else if (inside && line.equals(MAKES)) {
                hall = new AntennaHall();
            } else if (inside && call.matches()) {
                call(number, call);
            } else {
                demand(!inside, "line " + number + " is neither a call with its answer nor makes an object");
            }
        }
        demand(!inside, "its last piece does not end");
    }

    private static void everyCallIsShown() {
        for (Method method : AntennaHall.class.getDeclaredMethods()) {
            if (Modifier.isPublic(method.getModifiers())) {
                demand(shown.contains(method.getName()), method.getName() + " is not shown");
            }
        }
    }

    private static void constants(String text) throws ReflectiveOperationException {
        Matcher constant = CONSTANT.matcher(text);
        while (constant.find()) {
            int value = AntennaHall.class.getField(constant.group(1)).getInt(null);
            demand(value == Integer.parseInt(constant.group(2)), constant.group() + " is " + value);
        }
    }

    private static void everyTestIsNamed(List<String> lines) throws IOException {
        Set<String> named = new TreeSet<>();
        for (String line : lines) {
            Matcher test = TEST.matcher(line);
            if (test.matches() && test.group(1).startsWith("AntennaHall")) {
                named.add(test.group(1) + ".java");
            }
        }
        Set<String> there = new TreeSet<>();
        try (Stream<Path> files = Files.list(TESTS)) {
            files.forEach(file -> there.add(file.getFileName().toString()));
        }
        demand(named.equals(there), "it names the tests " + named + ", there are " + there);
    }

    public static void main(String[] args) throws IOException, ReflectiveOperationException {
        List<String> lines = Files.readAllLines(README);
        pieces(lines);
        everyCallIsShown();
        constants(String.join("\n", lines));
        everyTestIsNamed(lines);
        System.out.println(wrong == 0 ? "README.md shows what is answered" : wrong + " things are not as shown");
        if (wrong != 0) {
            System.exit(1);
        }
    }
}
