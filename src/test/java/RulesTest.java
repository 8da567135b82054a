import java.lang.reflect.Constructor;
import java.lang.reflect.Field;
import java.lang.reflect.Method;
import java.lang.reflect.Modifier;
import java.nio.charset.StandardCharsets;
import java.nio.file.Files;
import java.nio.file.Path;
import java.util.Arrays;
import java.util.Set;
import java.util.TreeSet;
import java.util.regex.Matcher;
import java.util.regex.Pattern;

/** The face is the document's, and the file keeps to what of LANGUAGE.md can be seen without reading it whole. */
public final class RulesTest {
    private static final String SOURCE = "src/main/java/SharedEchoes.java";
    private static final String[] CALLS = {
        "sample 1", "silence 1", "tap 3", "off 1", "feedback 2", "steal 1", "giveBack 1", "set 2", "reset 0", "tapOf 2",
        "wordOf 1", "outputOf 1", "meter 1", "echo 2", "quietAfter 1", "loudest 0", "safeGain 2", "count 1", "undo 0",
        "type 1", "clearText 0", "fault 1", "play 0"};
    private static final String[] CONSTANTS = {"INVALID_ARGUMENT", "LIMIT_REACHED", "NOT_FOUND", "NOT_POSSIBLE"};
    // Of the language and the library: what the rules leave out.
    private static final String[] FORBIDDEN = {
        "->", "::", "\\bthrow\\b", "\\btry\\b", "\\bcatch\\b", "\\bfinally\\b", "\\bsynchronized\\b", "\\bassert\\b", "\\bvar\\b",
        "\\bprotected\\b", "\\bequals\\b", "\\bhashCode\\b", "\\btoString\\b", "Exact\\b", "\\bFloat\\b", "\\bDouble\\b",
        "\\bpackage\\b", "\\bThread\\b", "\\bRandom\\b", "currentTime", "nanoTime", "\" *\\+", "\\+ *\"", "while \\(true\\)"};

    private static int wrong = 0;

    public static void main(String[] args) throws Exception {
        face();
        nestedClasses();
        source();
        System.out.println(wrong == 0 ? "the rules are kept" : wrong + " rules are broken");
        if (wrong != 0) {
            System.exit(1);
        }
    }

    private static void tell(String what) {
        wrong++;
        System.out.println(what);
    }

    private static void face() {
        Class<?> face = SharedEchoes.class;
        if (!Modifier.isPublic(face.getModifiers()) || !Modifier.isFinal(face.getModifiers())) {
            tell("the class is not public and final");
        }
        Set<String> calls = new TreeSet<>();
        Set<String> hidden = new TreeSet<>();
        for (Method method : face.getDeclaredMethods()) {
            if (Modifier.isPublic(method.getModifiers())) {
                calls.add(method.getName() + " " + method.getParameterCount());
                boolean ints = method.getReturnType() == int.class && !Modifier.isStatic(method.getModifiers());
                for (Class<?> type : method.getParameterTypes()) {
                    ints = ints && type == int.class;
                }
                if (!ints) tell(method + " is not of the face");
            } else if (Modifier.isPrivate(method.getModifiers())) {
                hidden.add(method.getName());
            } else {
                tell(method + " is neither public nor private");
            }
        }
        if (!calls.equals(new TreeSet<>(Arrays.asList(CALLS)))) tell("the calls are " + calls);
        for (String call : CALLS) {
            if (hidden.contains(call.substring(0, call.indexOf(' ')))) tell("a private method is named as " + call);
        }
        Set<String> constants = new TreeSet<>();
        for (Field field : face.getDeclaredFields()) {
            if (Modifier.isPublic(field.getModifiers())) constants.add(field.getName());
            else if (!Modifier.isPrivate(field.getModifiers())) tell(field + " is neither public nor private");
            if (Modifier.isStatic(field.getModifiers()) && !Modifier.isFinal(field.getModifiers())) tell(field + " is not final");
        }
        if (!constants.equals(new TreeSet<>(Arrays.asList(CONSTANTS)))) tell("the constants are " + constants);
        Constructor<?>[] constructors = face.getDeclaredConstructors();
        if (constructors.length != 1 || constructors[0].getParameterCount() != 0) tell("the constructors are " + Arrays.toString(constructors));
    }

    private static void nestedClasses() {
        Class<?>[] nested = SharedEchoes.class.getDeclaredClasses();
        if (nested.length > 11) tell("there are more than twelve classes");
        for (Class<?> inside : nested) {
            int own = 0;
            for (Field field : inside.getDeclaredFields()) {
                if (!Modifier.isStatic(field.getModifiers())) own++;
                else if (!Modifier.isFinal(field.getModifiers())) tell(field + " is not final");
            }
            if (own > 20) tell(inside + " has more than twenty fields");
            if (Modifier.isPublic(inside.getModifiers())) tell(inside + " is public");
            for (Method method : inside.getDeclaredMethods()) {
                if (method.getParameterCount() > 7) tell(method + " takes more than seven parameters");
            }
        }
    }

    private static void source() throws Exception {
        String text = Files.readString(Path.of(SOURCE), StandardCharsets.ISO_8859_1);
        for (int i = 0; i < text.length(); i++) {
            char c = text.charAt(i);
            if (c > 126 || c < 32 && c != '\n') {
                tell("there is a sign " + (int) c + " at " + i);
                break;
            }
        }
        String code = text.replaceAll("(?s)/\\*.*?\\*/", "").replaceAll("//[^\n]*", "");
        for (String forbidden : FORBIDDEN) {
            if (Pattern.compile(forbidden).matcher(code).find()) tell("there is " + forbidden);
        }
        Matcher imports = Pattern.compile("import ([^;]*);").matcher(code);
        while (imports.find()) {
            if (!imports.group(1).equals("java.util.Arrays")) tell("there is an import of " + imports.group(1));
        }
        Matcher uses = Pattern.compile("\\b(Arrays|System|Math|Integer|Long)\\.(\\w+)").matcher(code);
        Set<String> allowed = Set.of("Arrays.fill", "System.arraycopy", "Math.abs", "Math.max", "Math.min", "Math.floorMod");
        while (uses.find()) {
            if (!allowed.contains(uses.group())) tell("there is " + uses.group());
        }
    }
}
