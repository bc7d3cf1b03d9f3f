import java.io.IOException;
import java.lang.reflect.Constructor;
import java.lang.reflect.Field;
import java.lang.reflect.Method;
import java.lang.reflect.Modifier;
import java.nio.file.Files;
import java.nio.file.Path;
import java.util.Arrays;
import java.util.Set;
import java.util.TreeSet;
import java.util.regex.Matcher;
import java.util.regex.Pattern;

// The public face of the class, and those rules of the language that the source shows.
public final class AntennaHallFace {
    private static final Path SOURCE = Path.of("src/main/java/AntennaHall.java");
    private static final String[] METHODS = {
        "int net(int)", "int near(int, int)", "int far(int)", "int back()", "int tell(int, int)",
        "int probe(int, int)", "int seen(int)", "int unprobe()", "int gated(int, int, int)",
        "long power(int, int)", "int lose(int, boolean)", "int mends(int, int)",
        "long mend(int, int, int, int)", "int sheet(int, int)", "int cell(int, int, int)",
        "int closed(int, int)", "int tied(int, int)", "int antennas(int)",
        "int together(int, int, int, boolean)", "int gain(int)", "int loose()",
        "int measure(int, int, boolean)", "int faults()", "int fault(int)", "int by(int)",
        "int limit(int, int)", "int broken()", "int doubt(int)", "int budget(int)", "int sure()",
        "int count(int)", "long digest()"};
    private static final String[] CONSTANTS = {"FULL", "NONE", "OUTSIDE", "STATE", "UNKNOWN"};
    private static final String[] FORBIDDEN = {
        "throw", "try", "catch", "finally", "synchronized", "assert", "import", "package", "protected",
        "Object", "System", "\\w+Exact", "volatile", "native"};

    private static int wrong;

    private static void demand(boolean holds, String what) {
        if (!holds) {
            wrong++;
            System.out.println("not so: " + what);
        }
    }

    private static String told(Method method) {
        StringBuilder text = new StringBuilder();
        text.append(method.getReturnType().getName()).append(' ').append(method.getName()).append('(');
        String between = "";
        for (Class<?> type : method.getParameterTypes()) {
            text.append(between).append(type.getName());
            between = ", ";
        }
        return text.append(')').toString();
    }

    private static void face() {
        Class<?> hall = AntennaHall.class;
        demand(Modifier.isPublic(hall.getModifiers()) && Modifier.isFinal(hall.getModifiers()), "public and final");
        Set<String> open = new TreeSet<>();
        for (Method method : hall.getDeclaredMethods()) {
            if (!Modifier.isPrivate(method.getModifiers())) {
                demand(!Modifier.isStatic(method.getModifiers()), method.getName() + " is not static");
                open.add(told(method));
            }
        }
        demand(open.equals(new TreeSet<>(Arrays.asList(METHODS))), "the methods are those of the document: " + open);
        Set<String> constants = new TreeSet<>();
        for (Field field : hall.getDeclaredFields()) {
            boolean isPrivate = Modifier.isPrivate(field.getModifiers());
            demand(isPrivate || field.getType() == int.class, field.getName() + " is private or an int");
            demand(Modifier.isFinal(field.getModifiers()), field.getName() + " is final");
            if (!isPrivate) {
                constants.add(field.getName());
            }
        }
        demand(constants.equals(new TreeSet<>(Arrays.asList(CONSTANTS))), "the constants are those of the document");
        Constructor<?>[] constructors = hall.getDeclaredConstructors();
        demand(constructors.length == 1 && constructors[0].getParameterCount() == 0
            && Modifier.isPublic(constructors[0].getModifiers()), "one public constructor without arguments");
    }

    private static void classesInside() {
        Set<String> open = new TreeSet<>();
        for (Method method : AntennaHall.class.getMethods()) {
            open.add(method.getName());
        }
        Class<?>[] inside = AntennaHall.class.getDeclaredClasses();
        demand(inside.length <= 11, "some twelve classes at most");
        for (Class<?> part : inside) {
            demand(Modifier.isStatic(part.getModifiers()), part.getName() + " is static");
            demand(part.getDeclaredFields().length <= 20, part.getName() + " has some twenty fields at most");
            for (Method method : part.getDeclaredMethods()) {
                demand(!open.contains(method.getName()), method.getName() + " bears no name of the face");
            }
        }
    }

    private static void source() throws IOException {
        String text = Files.readString(SOURCE);
        String code = text.replaceAll("(?s)/\\*.*?\\*/", "").replaceAll("//[^\n]*", "");
        for (String word : FORBIDDEN) {
            Matcher found = Pattern.compile("\\b" + word + "\\b").matcher(code);
            demand(!found.find(), "the source does without " + word);
        }
        demand(!code.contains("->") && !code.contains("::"), "the source does without lambdas");
        demand(!code.contains("double") && !code.contains("float"), "the source does without doubles");
    }

    public static void main(String[] args) throws IOException {
        face();
        classesInside();
        source();
        System.out.println(wrong == 0 ? "the face is as due" : wrong + " things are not as due");
        if (wrong != 0) {
            System.exit(1);
        }
    }
}
