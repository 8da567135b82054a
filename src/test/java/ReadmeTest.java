import java.lang.reflect.Field;
import java.lang.reflect.Method;
import java.lang.reflect.Modifier;
import java.nio.charset.StandardCharsets;
import java.nio.file.Files;
import java.nio.file.Path;
import java.util.regex.Matcher;
import java.util.regex.Pattern;

/** What README.md says of the class is so: its example is done line by line, its tables name the whole face. */
public final class ReadmeTest {
    private static final Pattern MADE = Pattern.compile("SharedEchoes echo = new SharedEchoes\\(\\);");
    private static final Pattern CALL = Pattern.compile("echo\\.(\\w+)\\(([-0-9, ]*)\\); *// (-?[0-9]+|SharedEchoes\\.(\\w+))(: .*)?");
    private static final Pattern TYPED = Pattern.compile("for \\(char c : \"([^\"]*)\"\\.toCharArray\\(\\)\\) echo\\.type\\(c\\);");

    private static Echoes echo;

    public static void main(String[] args) throws Exception {
        Echoes.test("README.md");
        String readme = Files.readString(Path.of("README.md"), StandardCharsets.UTF_8);
        int lines = doExample(readme);
        lookForFace(readme);
        int wrong = Echoes.wrongAnswers();
        System.out.println(wrong == 0 ? "all " + lines + " lines of the example are so" : wrong + " things are not as README.md says");
        if (wrong != 0) {
            System.exit(1);
        }
    }

    private static int doExample(String readme) throws Exception {
        int begin = readme.indexOf("```java\n");
        int end = readme.indexOf("\n```", begin + 1);
        if (begin < 0 || end < 0) {
            Echoes.tell("there is no example");
            return 0;
        }
        int lines = 0;
        for (String line : readme.substring(begin, end).split("\n")) {
            if (!line.isEmpty() && !line.startsWith("//") && !line.startsWith("```")) {
                doLine(line);
                lines++;
            }
        }
        return lines;
    }

    private static void doLine(String line) throws Exception {
        Matcher call = CALL.matcher(line);
        Matcher typed = TYPED.matcher(line);
        if (MADE.matcher(line).matches()) {
            echo = new Echoes();
        } else if (echo != null && call.matches()) {
            echo.due(answer(call.group(3), call.group(4)), call.group(1), arguments(call.group(2)));
        } else if (echo != null && typed.matches()) {
            echo.write(typed.group(1));
        } else {
            Echoes.tell("this line is not understood: " + line);
        }
    }

    private static int answer(String number, String constant) throws Exception {
        return constant == null ? Integer.parseInt(number) : SharedEchoes.class.getField(constant).getInt(null);
    }

    private static int[] arguments(String list) {
        if (list.isEmpty()) {
            return new int[0];
        }
        String[] parts = list.split(", ");
        int[] numbers = new int[parts.length];
        for (int i = 0; i < parts.length; i++) {
            numbers[i] = Integer.parseInt(parts[i]);
        }
        return numbers;
    }

    private static void lookForFace(String readme) throws Exception {
        for (Method method : SharedEchoes.class.getDeclaredMethods()) {
            int many = method.getParameterCount();
            String row = "\\| `" + method.getName() + "\\(" + (many == 0 ? "" : "\\w+(, \\w+){" + (many - 1) + "}") + "\\)` \\|";
            if (Modifier.isPublic(method.getModifiers()) && !Pattern.compile(row).matcher(readme).find()) {
                Echoes.tell("there is no row of " + method.getName());
            }
        }
        for (Field field : SharedEchoes.class.getFields()) {
            if (!readme.contains("| `" + field.getName() + "` | " + field.getInt(null) + " |")) {
                Echoes.tell("there is no row of " + field.getName());
            }
        }
    }
}
