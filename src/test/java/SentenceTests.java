import java.lang.reflect.InvocationTargetException;
import java.lang.reflect.Method;
import java.lang.reflect.Modifier;
import java.nio.charset.StandardCharsets;
import java.nio.file.Files;
import java.nio.file.Path;
import java.util.Arrays;
import java.util.Comparator;
import java.util.Map;
import java.util.TreeMap;

/** Runs the tests of what the document says, and looks whether each of its words has a test. */
public final class SentenceTests {
    private static final String DOCUMENT = "../shared/DOC.md";
    private static final Class<?>[] TESTS = {MemorySentences.class, SampleSentences.class, TextSentences.class,
        ChangeSentences.class, SamplePromises.class, StatePromises.class, OutlookPromises.class, TextPromises.class};
    // Of these sections only what says something about answers is promised.
    private static final String[] NOT_PROMISED = {"SharedEchoes", "What it is", "The public face", "Not promised"};
    // Headings within a section, and what is said of the interface's own text.
    private static final String[] NO_PROMISE = {"Taps, feedback", "The constants:",
        "Ahead of the calls `sample`, `silence` the interface says: ---- samples.",
        "Ahead of the calls `tap`, `off`, `feedback`, `steal`, `giveBack`, `set`, `reset` the interface says: ---- taps, feedback, memory.",
        "Ahead of the calls `tapOf`, `wordOf`, `outputOf`, `meter` the interface says: ---- what there is.",
        "Ahead of the calls `echo`, `quietAfter`, `loudest`, `safeGain`, `count`, `undo` the interface says: ---- what would be.",
        "Ahead of the calls `type`, `clearText`, `fault`, `play` the interface says: ---- texts."};

    private static final Map<String, String> sections = new TreeMap<>();
    private static final Map<String, boolean[]> tested = new TreeMap<>();

    public static void main(String[] args) throws Exception {
        readDocument();
        int tests = 0;
        for (Class<?> place : TESTS) {
            Method[] methods = place.getDeclaredMethods();
            Arrays.sort(methods, Comparator.comparing(Method::getName));
            for (Method method : methods) {
                Says says = method.getAnnotation(Says.class);
                if (says != null) {
                    run(method, says);
                    tests++;
                } else if (!Modifier.isPrivate(method.getModifiers())) {
                    Echoes.tell(method + " does not say what it tests");
                }
            }
        }
        lookForWordsWithoutTest();
        int wrong = Echoes.wrongAnswers();
        System.out.println(wrong == 0 ? "all " + tests + " tests of sentences hold" : wrong + " answers are not as due");
        if (wrong != 0) {
            System.exit(1);
        }
    }

    private static void run(Method method, Says says) throws IllegalAccessException {
        Echoes.test(method.getDeclaringClass().getName() + "." + method.getName() + ", " + says.in());
        for (String text : says.text()) {
            mark(says.in(), text);
        }
        try {
            method.setAccessible(true);
            method.invoke(null);
        } catch (InvocationTargetException thrown) {
            Echoes.tell("threw " + thrown.getCause());
        }
    }

    private static void readDocument() throws Exception {
        String section = "";
        StringBuilder text = new StringBuilder();
        boolean code = false;
        for (String line : Files.readAllLines(Path.of(DOCUMENT), StandardCharsets.UTF_8)) {
            if (line.startsWith("```")) {
                code = !code;
            } else if (!code && line.startsWith("#")) {
                keep(section, text);
                section = line.replaceAll("^#+ *", "").replaceAll(":.*$", "");
            } else if (!code) {
                text.append(' ').append(line.strip());
            }
        }
        keep(section, text);
    }

    private static void keep(String section, StringBuilder text) {
        String plain = text.toString().replaceAll("\\s+", " ").strip();
        text.setLength(0);
        sections.put(section, plain);
        tested.put(section, new boolean[plain.length()]);
    }

    private static void mark(String section, String text) {
        int at = sections.containsKey(section) ? sections.get(section).indexOf(text) : -1;
        if (at < 0) {
            Echoes.tell("the document does not say there: " + text);
            return;
        }
        Arrays.fill(tested.get(section), at, at + text.length(), true);
    }

    private static void lookForWordsWithoutTest() {
        Echoes.test("the document");
        for (String section : sections.keySet()) {
            String text = sections.get(section);
            for (String free : NO_PROMISE) {
                if (text.contains(free)) mark(section, free);
            }
            if (Arrays.asList(NOT_PROMISED).contains(section)) continue;
            StringBuilder without = new StringBuilder();
            for (int i = 0; i <= text.length(); i++) {
                if (i < text.length() && !tested.get(section)[i]) {
                    without.append(text.charAt(i));
                } else {
                    if (without.chars().anyMatch(Character::isLetterOrDigit)) {
                        Echoes.tell(section + ": there is no test of: " + without);
                    }
                    without.setLength(0);
                }
            }
        }
    }
}
