import java.lang.reflect.InvocationTargetException;
import java.lang.reflect.Method;
import java.util.Arrays;
import java.util.Map;
import java.util.TreeMap;

/** An echo that is called by the names of its calls, so that a wrong answer is told with the call itself. */
final class Echoes {
    static final int INVALID = -1000001;
    static final int IMPOSSIBLE = -1000002;
    static final int LIMIT = -1000003;
    static final int MISSING = -1000004;

    // Nothing is promised of an object for later calls.
    private static final int MOST_CALLS = 512;
    private static final Map<String, Method> CALLS = callsByName();

    private static String tested = "";
    private static int wrong = 0;

    private final SharedEchoes echoes = new SharedEchoes();
    private int calls = 0;

    private static Map<String, Method> callsByName() {
        Map<String, Method> calls = new TreeMap<>();
        for (Method method : SharedEchoes.class.getDeclaredMethods()) {
            calls.put(method.getName(), method);
        }
        return calls;
    }

    static void test(String what) {
        tested = what;
    }

    static void tell(String fault) {
        wrong++;
        System.out.println(tested + ": " + fault);
    }

    static int wrongAnswers() {
        return wrong;
    }

    /** An echo for which these orders have been done; its text is empty. */
    static Echoes with(String orders) {
        Echoes x = new Echoes();
        x.write(orders);
        int answer = x.call("play");
        if (answer < 0) {
            tell("the orders " + orders + " are not done");
        }
        x.call("clearText");
        return x;
    }

    /** Of the arguments, which are right, the one of this index is right from least to most, and out of range elsewhere. */
    static void range(String name, int index, int least, int most, int... right) {
        int[] numbers = {least, most, least - 1, most + 1, least - 1000000, most + 1000000, Integer.MIN_VALUE, Integer.MAX_VALUE};
        for (int number : numbers) {
            Echoes x = new Echoes();
            int[] arguments = right.clone();
            arguments[index] = number;
            boolean taken = x.call(name, arguments) != INVALID;
            if (taken != (number >= least && number <= most)) {
                tell(describe(name, arguments) + (taken ? " is not refused as out of range" : " is refused as out of range"));
            }
            if (!taken) {
                x.due(0, "count", 7);
            }
        }
    }

    int call(String name, int... arguments) {
        calls++;
        if (calls > MOST_CALLS) {
            tell(name + " is the call " + calls + " of an object");
        }
        Object[] boxed = Arrays.stream(arguments).boxed().toArray();
        try {
            return (Integer) CALLS.get(name).invoke(echoes, boxed);
        } catch (InvocationTargetException thrown) {
            tell(describe(name, arguments) + " threw " + thrown.getCause());
            return 0;
        } catch (IllegalAccessException refused) {
            throw new IllegalStateException(refused);
        }
    }

    Echoes due(int want, String name, int... arguments) {
        int got = call(name, arguments);
        if (got != want) {
            tell(describe(name, arguments) + ", call " + calls + ", answered " + got + ", due is " + want);
        }
        return this;
    }

    private static String describe(String name, int[] arguments) {
        String list = Arrays.toString(arguments);
        return name + "(" + list.substring(1, list.length() - 1) + ")";
    }

    int calls() {
        return calls;
    }

    Echoes samples(int... numbers) {
        for (int number : numbers) {
            call("sample", number);
        }
        return this;
    }

    Echoes write(String text) {
        for (int i = 0; i < text.length(); i++) {
            call("type", text.charAt(i));
        }
        return this;
    }

    /** The words that the ring begins with. */
    Echoes words(int... wanted) {
        for (int word = 0; word < wanted.length; word++) {
            due(wanted[word], "wordOf", word);
        }
        return this;
    }

    /** The outputs that are kept, the latest one first, all of them. */
    Echoes outputs(int... wanted) {
        for (int index = 0; index < wanted.length; index++) {
            due(wanted[index], "outputOf", index);
        }
        return due(MISSING, "outputOf", wanted.length);
    }

    /** Samples, greatest amount, held outputs, held numbers for the ring. */
    Echoes meters(int samples, int greatest, int heldOutputs, int heldNumbers) {
        return due(samples, "meter", 0).due(greatest, "meter", 1).due(heldOutputs, "meter", 2).due(heldNumbers, "meter", 3);
    }

    Echoes mean(float mean) {
        return due(Float.floatToIntBits(mean), "meter", 4);
    }

    /** The fault of this text, which is then the only one. */
    Echoes fault(String text, int position, int reason, int cause) {
        call("clearText");
        write(text);
        return due(position, "fault", 0).due(reason, "fault", 1).due(cause, "fault", 2);
    }

    Echoes noFault(String text) {
        return fault(text, MISSING, MISSING, MISSING);
    }

    /** What the calls tell that change nothing, the length of the text and the history as the last two. */
    int[] everything() {
        int[] all = new int[64 + 12 + 5 + 25 + 9 + 2];
        int at = 0;
        for (int word = 0; word < 64; word++) {
            all[at++] = call("wordOf", word);
        }
        for (int index = 0; index < 12; index++) {
            all[at++] = call("outputOf", index);
        }
        for (int what = 0; what < 5; what++) {
            all[at++] = call("meter", what);
        }
        for (int tap = 0; tap < 5; tap++) {
            for (int what = 0; what < 5; what++) {
                all[at++] = call("tapOf", tap, what);
            }
        }
        for (int what : new int[] {0, 1, 2, 3, 4, 5, 6, 20, 21, 7, 8}) {
            all[at++] = call("count", what);
        }
        return all;
    }

    /** Everything but the history and the text is as it was. */
    Echoes unchanged(int[] before, String since) {
        int[] after = everything();
        for (int i = 0; i < before.length - 2; i++) {
            if (after[i] != before[i]) {
                tell("since " + since + " the answer " + i + " of everything is " + after[i] + ", it was " + before[i]);
            }
        }
        return this;
    }
}
