import java.io.IOException;
import java.lang.reflect.Constructor;
import java.lang.reflect.Executable;
import java.lang.reflect.Field;
import java.lang.reflect.Method;
import java.lang.reflect.Modifier;
import java.nio.file.Files;
import java.nio.file.Path;
import java.util.Arrays;
import java.util.List;
import java.util.Set;
import java.util.TreeSet;
import java.util.regex.Matcher;
import java.util.regex.Pattern;

// The public face of the class, and those rules of the language that its parts and its source show.
public final class AntennaHallFace {
    private static final Path SOURCE = Path.of("src/main/java/AntennaHall.java");
    /** As the document has it: what the interface says ahead of some calls, then these calls. */
    private static final String[][] INTERFACE = {
        {"the net", "int net(int)", "int near(int, int)", "int far(int)", "int back()", "int tell(int, int)",
            "int probe(int, int)", "int seen(int)", "int unprobe()", "int gated(int, int, int)",
            "long power(int, int)"},
        {"lost samples", "int lose(int, boolean)", "int mends(int, int)", "long mend(int, int, int, int)"},
        {"drift", "int sheet(int, int)", "int cell(int, int, int)", "int closed(int, int)", "int tied(int, int)"},
        {"gains", "int antennas(int)", "int together(int, int, int, boolean)", "int gain(int)", "int loose()"},
        {"faults", "int measure(int, int, boolean)", "int faults()", "int fault(int)", "int by(int)"},
        {"limits, budgets", "int limit(int, int)", "int broken()", "int doubt(int)", "int budget(int)",
            "int sure()"},
        {"what is told", "int count(int)", "long digest()"}};
    private static final String[] CONSTANTS = {"FULL", "NONE", "OUTSIDE", "STATE", "UNKNOWN"};
    private static final String[] FORBIDDEN = {
        "throw", "throws", "try", "catch", "finally", "synchronized", "assert", "import", "package", "protected",
        "\\w+Exact", "volatile", "native", "transient", "double", "float", "equals", "hashCode", "toString",
        "while", "do"};
    private static final Set<String> LIBRARY = Set.of(
        "Math.abs", "Math.max", "Math.min", "Math.floorDiv", "Integer.bitCount");
    private static final int MOST_LINES = 60, MOST_PARAMETERS = 7, MOST_CLASSES = 12, MOST_FIELDS = 20;
    private static final int NOWHERE = -1;

    private static int wrong;

    private AntennaHallFace() {
    }

    private static void demand(boolean holds, String what) {
        if (!holds) {
            wrong++;
            System.out.println("not so: " + what);
        }
    }

    private static String told(Method method) {
        StringBuilder text = new StringBuilder();
        text.append(method.getReturnType().getName()).append(' ').append(method.getName()).append('(');
        String between = "";
        for (Class<?> type : method.getParameterTypes()) {
            text.append(between).append(type.getName());
            between = ", ";
        }
        return text.append(')').toString();
    }

    private static Set<String> callsOfTheFace() {
        Set<String> calls = new TreeSet<>();
        for (String[] section : INTERFACE) {
            calls.addAll(Arrays.asList(section).subList(1, section.length));
        }
        return calls;
    }

    private static String nameOf(String call) {
        return call.substring(call.indexOf(' ') + 1, call.indexOf('('));
    }

    private static Set<String> namesOfTheFace() {
        Set<String> names = new TreeSet<>();
        for (String call : callsOfTheFace()) {
            names.add(nameOf(call));
        }
        return names;
    }

    // ---- the public face

    private static void classItself() {
        Class<?> hall = AntennaHall.class;
        demand(Modifier.isPublic(hall.getModifiers()) && Modifier.isFinal(hall.getModifiers()), "public and final");
        demand(hall.getSuperclass() == Object.class && hall.getInterfaces().length == 0, "no class above it");
        Constructor<?>[] constructors = hall.getDeclaredConstructors();
        demand(constructors.length == 1 && constructors[0].getParameterCount() == 0
            && Modifier.isPublic(constructors[0].getModifiers()), "one public constructor without arguments");
    }

    private static void calls() {
        Set<String> open = new TreeSet<>();
        for (Method method : AntennaHall.class.getDeclaredMethods()) {
            boolean isPublic = Modifier.isPublic(method.getModifiers());
            demand(isPublic || Modifier.isPrivate(method.getModifiers()), method.getName() + " is public or private");
            if (isPublic) {
                demand(!Modifier.isStatic(method.getModifiers()), method.getName() + " is not static");
                open.add(told(method));
            } else {
                demand(!namesOfTheFace().contains(method.getName()), method.getName() + " bears no name of the face");
            }
        }
        demand(open.equals(callsOfTheFace()), "the methods are those of the document: " + open);
    }

    private static void constants() {
        Set<String> open = new TreeSet<>();
        for (Field field : AntennaHall.class.getDeclaredFields()) {
            int is = field.getModifiers();
            demand(Modifier.isFinal(is), field.getName() + " is final");
            demand(Modifier.isPublic(is) || Modifier.isPrivate(is), field.getName() + " is public or private");
            if (Modifier.isPublic(is)) {
                demand(Modifier.isStatic(is) && field.getType() == int.class, field.getName() + " is an int constant");
                open.add(field.getName());
            }
        }
        demand(open.equals(new TreeSet<>(Arrays.asList(CONSTANTS))), "the constants are those of the document");
    }

    /** "Ahead of the calls .. the interface says: ----": each call stands behind its own remark, in order. */
    private static void remarks(String text) {
        int at = 0;
        for (String[] section : INTERFACE) {
            at = found(text, at, "    // ---- " + section[0] + "\n");
            for (String call : Arrays.asList(section).subList(1, section.length)) {
                String start = "    public " + call.substring(0, call.indexOf('(') + 1);
                at = found(text, at, start);
            }
        }
    }

    private static int found(String text, int from, String part) {
        int at = text.indexOf(part, from);
        demand(at >= 0, "in its order stands: " + part.trim());
        return Math.max(at, from);
    }

    // ---- rules 1 to 3, 5 and 11, by the parts of the class

    private static void parts() {
        Class<?>[] all = AntennaHall.class.getNestMembers();
        demand(all.length <= MOST_CLASSES, "some twelve classes at most");
        for (Class<?> part : all) {
            String name = part.getName();
            if (part != AntennaHall.class) {
                int is = part.getModifiers();
                demand(part.isMemberClass() && Modifier.isStatic(is), name + " is static and stands in the class");
                demand(!Modifier.isPublic(is) && !Modifier.isProtected(is), name + " is private or package-visible");
                for (Method method : part.getDeclaredMethods()) {
                    demand(!namesOfTheFace().contains(method.getName()), told(method) + " bears no name of the face");
                }
            }
            fields(part);
            parameters(part.getDeclaredMethods());
            parameters(part.getDeclaredConstructors());
        }
    }

    private static void fields(Class<?> part) {
        int held = 0;
        for (Field field : part.getDeclaredFields()) {
            String name = part.getName() + "." + field.getName();
            demand(isAllowed(field.getType()), name + " has a type that the rules name");
            if (Modifier.isStatic(field.getModifiers())) {
                demand(Modifier.isFinal(field.getModifiers()), name + " is static, so it is final");
                demand(field.getType().isPrimitive(), name + " is static, so it is a number");
            } else {
                held++;
            }
        }
        demand(held <= MOST_FIELDS, part.getName() + " has some twenty fields at most");
    }

    private static boolean isAllowed(Class<?> type) {
        if (!type.isArray()) {
            return type.isPrimitive() || type.getNestHost() == AntennaHall.class;
        }
        Class<?> inside = type.getComponentType();
        Class<?> most = inside.isArray() ? inside.getComponentType() : inside;
        return most.isPrimitive() && !(inside.isArray() && most == boolean.class);
    }

    private static void parameters(Executable[] all) {
        for (Executable one : all) {
            demand(one.getParameterCount() <= MOST_PARAMETERS, one.getName() + " takes at most seven");
        }
    }

    // ---- rules 2, 4, 6 and 9 to 13, by the source

    private static void words(String code) {
        for (String word : FORBIDDEN) {
            Matcher found = Pattern.compile("\\b" + word + "\\b").matcher(code);
            demand(!found.find(), "the source does without " + word);
        }
        demand(!code.contains("->") && !code.contains("::"), "the source does without lambdas");
        demand(!code.contains("\""), "the source does without texts");
    }

    private static void library(String code) {
        Set<String> own = new TreeSet<>(List.of("Math", "Integer"));
        for (Class<?> part : AntennaHall.class.getNestMembers()) {
            own.add(part.getSimpleName());
        }
        Matcher named = Pattern.compile("\\b[A-Z]\\w*[a-z]\\w*\\b").matcher(code);
        while (named.find()) {
            demand(own.contains(named.group()), named.group() + " is a class of its own");
        }
        Matcher called = Pattern.compile("\\b(?:Math|Integer)\\.\\w+").matcher(code);
        while (called.find()) {
            demand(LIBRARY.contains(called.group()), called.group() + " is in the library that the rules leave");
        }
    }

    /** Rule 12, and the page's word that no call makes an object: rows are made with their object alone. */
    private static void objects(String code) {
        Pattern made = Pattern.compile("\\s+(?:final [\\w\\[\\]]+ )?\\w+ = new \\w+[\\[(].*;");
        int makers = 0;
        for (String line : code.split("\n")) {
            if (Pattern.compile("\\bnew\\b").matcher(line).find()) {
                boolean inField = line.startsWith("        final ");
                demand(made.matcher(line).matches(), "a row or a part is made: " + line.trim());
                makers += inField ? 0 : 1;
            }
        }
        int from = code.indexOf("    public AntennaHall() {");
        int to = code.indexOf("\n    }\n", Math.max(from, 0));
        demand(from >= 0 && to > from, "the constructor stands in the source");
        String constructor = from >= 0 && to > from ? code.substring(from, to) : "";
        demand(constructor.split("= new ").length - 1 == makers, "nothing else is made outside the constructor");
    }

    private static void lengths(List<String> lines) {
        String margin = "    ";
        int from = NOWHERE;
        for (int at = 0; at < lines.size(); at++) {
            String line = lines.get(at);
            demand(line.chars().allMatch(c -> c >= 32 && c < 127), "line " + (at + 1) + " has plain characters alone");
            if (line.matches(" {4}\\w.* class \\w+ \\{")) {
                margin = "        ";
            } else if (line.matches(margin + "\\w.*\\) \\{")) {
                from = at;
            } else if (line.equals(margin + "}")) {
                demand(from != NOWHERE && at - from < MOST_LINES, "what ends at line " + (at + 1) + " is short");
                from = NOWHERE;
            } else if (line.equals("    }")) {
                margin = "    ";
            }
        }
    }

    public static void main(String[] args) throws IOException {
        classItself();
        calls();
        constants();
        parts();
        String text = Files.readString(SOURCE);
        String code = text.replaceAll("(?s)/\\*.*?\\*/", "").replaceAll("//[^\n]*", "");
        remarks(text);
        words(code);
        library(code);
        objects(code);
        lengths(Files.readAllLines(SOURCE));
        System.out.println(wrong == 0 ? "the face is as due" : wrong + " things are not as due");
        if (wrong != 0) {
            System.exit(1);
        }
    }
}
