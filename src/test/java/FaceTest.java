import java.io.IOException;
import java.lang.reflect.Constructor;
import java.lang.reflect.Field;
import java.lang.reflect.Method;
import java.lang.reflect.Modifier;
import java.nio.charset.StandardCharsets;
import java.nio.file.Files;
import java.nio.file.Path;
import java.util.Arrays;
import java.util.Set;
import java.util.TreeSet;

/** The public face of the class, and the rules of LANGUAGE.md that its source shows word by word. */
public final class FaceTest {
    private static final Path SOURCE = Path.of("src/main/java/DrillPlanner.java");
    private static final String[] CONSTANTS = {"NO_ERROR 0", "SYNTAX 1", "OUT_OF_RANGE 2", "BAD_NAME 3", "LIMIT_EXCEEDED 4",
        "EARLY 1", "ORDER 2", "ENGINES 3", "HOSES 4", "COVER 5"};
    private static final String[] METHODS = {"int appendInput(int,int,int,int,int)", "boolean truncateInput(int)", "int loadBrigade()",
        "int errorCode()", "int errorOffset()", "int nodes()", "int stations()", "int engines()", "int streets()", "int drills()",
        "int find()", "int travelMinutes(int,int) I", "int travelSlots(int,int) I", "int homeStation(int) I",
        "int engineKind(int) I", "int coverStation(int,int) IA", "int uncovered(int) A", "int uncoveredWithoutMoves(int) A",
        "int nearestMinutes(int,int) IA", "int coveringEngines(int,int) IA", "int weakestStreet(int) A", "int criticalEngine()",
        "int safeAbsences()", "int setStart(int,int) IA", "int start(int) I", "int clearStarts()", "int undo()",
        "int drillState(int) I", "int drillEngines(int) I", "int drillBegin(int) I", "int drillEnd(int) I", "int drillBack(int) I",
        "int violations()", "int violationCode(int) I", "int violationSlot(int) I", "int violationSubject(int) I",
        "int availableAt(int) I", "int uncoveredAt(int) I", "int dryHoses(int) I", "int wetHoses(int) I", "int dryingHoses(int) I",
        "int awaySlots(int) I", "int busiestSlot()", "int finish()", "int earliestStart(int) I", "int compact()",
        "int schedule(int) A", "int bestFinish()", "int bestOrder()", "int bestFinishWithout(int) I",
        "int bestFinishWith(int,int) A", "int enoughRacks()"};
    private static final String[] BANNED = {"->", "::", "try", "catch", "finally", "synchronized", "assert", "record", "var", "float",
        "double", "native", "volatile", "transient", "System.out", "package", "new Thread", "Exact(", "protected", "interface"};
    private static final Bench BENCH = new Bench();

    public static void main(String[] args) throws Exception {
        face();
        noSharedNames();
        source();
        BENCH.close("FaceTest");
    }

    private static void face() throws Exception {
        Class<?> face = DrillPlanner.class;
        BENCH.same("class", Modifier.toString(face.getModifiers()), "public final");
        Set<String> constants = new TreeSet<>();
        for (Field field : face.getDeclaredFields()) {
            if (Modifier.isPublic(field.getModifiers())) {
                constants.add(field.getName() + " " + field.getInt(null));
                BENCH.same(field.getName(), Modifier.toString(field.getModifiers()), "public static final");
            } else {
                BENCH.same("private " + field.getName(), Modifier.isPrivate(field.getModifiers()), true);
            }
        }
        BENCH.same("constants", constants, new TreeSet<>(Arrays.asList(CONSTANTS)));
        Set<String> methods = new TreeSet<>();
        for (Method method : face.getDeclaredMethods()) {
            if (Modifier.isPublic(method.getModifiers())) {
                methods.add(shown(method));
            } else {
                BENCH.same("private " + method.getName(), Modifier.isPrivate(method.getModifiers()), true);
            }
        }
        BENCH.same("methods", methods, new TreeSet<>(Arrays.asList(METHODS)));
        Constructor<?>[] constructors = face.getDeclaredConstructors();
        BENCH.same("constructors", constructors.length, 1);
        BENCH.same("constructor", constructors[0], "public DrillPlanner()");
    }

    private static String shown(Method method) {
        StringBuilder text = new StringBuilder(method.getReturnType() + " " + method.getName() + "(");
        for (Class<?> type : method.getParameterTypes()) {
            text.append(text.toString().endsWith("(") ? "" : ",").append(type);
        }
        text.append(')');
        for (Class<?> type : method.getExceptionTypes()) {
            text.append(text.toString().endsWith(")") ? " " : "");
            text.append(type == IndexOutOfBoundsException.class ? "I" : type == IllegalArgumentException.class ? "A" : "?");
        }
        return text.toString();
    }

    /** No method of the classes inside bears the name of a public one, and each of those classes is private and static. */
    private static void noSharedNames() {
        String all = Arrays.toString(METHODS);
        for (Class<?> inside : DrillPlanner.class.getDeclaredClasses()) {
            String modifiers = Modifier.toString(inside.getModifiers());
            BENCH.same(inside.getName(), modifiers, "private static final");
            for (Method method : inside.getDeclaredMethods()) {
                BENCH.same(inside.getName() + "." + method.getName(), all.contains(" " + method.getName() + "("), false);
            }
        }
    }

    private static void source() throws IOException {
        String text = Files.readString(SOURCE, StandardCharsets.UTF_8);
        BENCH.same("only signs below 128", text.chars().allMatch(sign -> sign < 128), true);
        String code = text.replaceAll("(?s)/\\*.*?\\*/", " ").replaceAll("//[^\n]*", " ").replaceAll("\"[^\"\n]*\"", "\"\"");
        for (String word : BANNED) {
            String pattern = Character.isLetter(word.charAt(0)) ? "(?s).*\\b" + java.util.regex.Pattern.quote(word)
                    + (Character.isLetter(word.charAt(word.length() - 1)) ? "\\b" : "") + ".*" : "(?s).*"
                    + java.util.regex.Pattern.quote(word) + ".*";
            BENCH.same("source has " + word, code.matches(pattern), false);
        }
        Set<String> imports = new TreeSet<>();
        for (String line : code.split("\n")) {
            if (line.startsWith("import ")) {
                imports.add(line.trim());
            }
        }
        BENCH.same("imports", imports, "[import java.util.Arrays;]");
        // What a run makes is counted: rows and objects are made with the planner, and calls make none but exceptions.
        for (String line : code.split("\n")) {
            if (line.contains("new ") && !line.contains("throw new ")) {
                boolean field = line.matches("\\s*(private )?(final )?[\\w\\[\\]]+ \\w+ = new .*;");
                boolean constructor = line.matches(" {8}\\w+ = new (BrigadeReader|Cover|Timetable|OrderSearch)\\(.*;");
                BENCH.same("made in a field or in the constructor: " + line.trim(), field || constructor, true);
            }
        }
    }
}
