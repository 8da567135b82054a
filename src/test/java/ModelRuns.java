/** Long runs of calls, the same each time, in which the program has to answer as the plain model does. */
public final class ModelRuns {
    // With the calls that compare everything in the end, a run stays within the 512 that the document tells of.
    private static final int MOST_CALLS = 370;
    private static final int RUNS = 1600;
    private static final int[] ARGUMENTS = {
        1, 1, 3, 1, 2, 1, 1, 2, 0, 2, 1, 1, 1, 2, 1, 0, 2, 1, 0, 1, 0, 1, 0};
    private static final String[] NAMES = {
        "sample", "silence", "tap", "off", "feedback", "steal", "giveBack", "set", "reset", "tapOf", "wordOf",
        "outputOf", "meter", "echo", "quietAfter", "loudest", "safeGain", "count", "undo", "type", "clearText",
        "fault", "play"};

    private static int wrong = 0;
    private static long seed;

    public static void main(String[] args) {
        for (int run = 0; run < RUNS && wrong == 0; run++) {
            oneRun(run);
        }
        loudForLong();
        System.out.println(wrong == 0 ? "the program answers as the model does" : "the program differs from the model");
        if (wrong != 0) {
            System.exit(1);
        }
    }

    /** A number below the bound, from a row that is the same each time. */
    private static int pick(int bound) {
        seed = seed * 6364136223846793005L + 1442695040888963407L;
        return (int) ((seed >>> 33) % bound);
    }

    private static int within(int least, int most) {
        return least + pick(most - least + 1);
    }

    /** Mostly a number of the range, at times its edges, at times one outside. */
    private static int argument(int least, int most) {
        switch (pick(40)) {
            case 0: return least - 1;
            case 1: return most + 1;
            case 2: return least;
            case 3: return most;
            case 4: return pick(20) != 0 ? least : Integer.MIN_VALUE;
            case 5: return pick(20) != 0 ? most : Integer.MAX_VALUE;
            default: return within(least, most);
        }
    }

    private static void oneRun(int run) {
        seed = 77L + run * 1000003L;
        SharedEchoes program = new SharedEchoes();
        PlainModel model = new PlainModel();
        int mood = run % 4;
        int typed = 0;
        String pending = "";
        int calls = run % 5 == 0 ? MOST_CALLS : within(1, MOST_CALLS);
        for (int i = 0; i < calls && wrong == 0; i++) {
            int call = nextCall(mood, typed < pending.length());
            int a = 0;
            int b = 0;
            int c = 0;
            switch (call) {
                case 0: a = mood == 1 ? argument(-300, 300) : argument(-20000, 20000); break;
                case 1: a = pick(3) == 0 ? argument(1, 200) : within(1, 12); break;
                case 2: a = argument(0, 3); b = pick(2) == 0 ? within(1, 8) : argument(1, 64); c = argument(-900, 900); break;
                case 3: a = argument(0, 3); break;
                case 4: a = pick(2) == 0 ? within(1, 8) : argument(1, 64); b = pick(3) == 0 ? within(800, 950) : argument(0, 950); break;
                case 5: case 6: a = pick(2) == 0 ? within(1, 9) : argument(1, 48); break;
                case 7: a = argument(0, 1); b = a == 0 ? (mood == 1 ? within(100, 400) : argument(100, 30000)) : argument(0, 2); break;
                case 9: a = argument(0, 4); b = argument(0, 4); break;
                case 10: a = argument(0, 63); break;
                case 11: a = argument(0, 11); break;
                case 12: a = argument(0, 4); break;
                case 13: a = argument(-20000, 20000); b = pick(4) != 0 ? within(0, 12) : argument(0, 200); break;
                case 14: a = pick(2) == 0 ? within(0, 40) : argument(0, 20000); break;
                case 16: a = pick(2) == 0 ? within(1, 30) : argument(1, 200); b = pick(2) == 0 ? within(0, 300) : argument(0, 20000); break;
                case 17: a = pick(4) == 0 ? argument(20, 21) : argument(0, 8); break;
                case 19:
                    if (typed >= pending.length()) {
                        pending = order();
                        typed = 0;
                    }
                    a = pending.charAt(typed);
                    typed++;
                    if (pick(60) == 0) a = argument(32, 126);
                    break;
                case 20: typed = 0; pending = ""; break;
                case 21: a = argument(0, 2); break;
                default: break;
            }
            compare(run, i, call, a, b, c, program, model);
        }
        compareAll(run, calls, program, model);
    }

    /** So loud and so long that the sum of the amounts is more than an int holds. */
    private static void loudForLong() {
        SharedEchoes program = new SharedEchoes();
        PlainModel model = new PlainModel();
        compare(-1, 0, 7, 0, 30000, 0, program, model);
        compare(-1, 1, 4, 64, 950, 0, program, model);
        for (int tap = 0; tap < 4; tap++) {
            compare(-1, 2 + tap, 2, tap, 10 * tap + 1, 900, program, model);
        }
        String text = "s20000;s20000;s20000;s20000;z200;z200;z200;z200;z200;z200;";
        for (int i = 0; i < text.length(); i++) {
            compare(-1, 6 + i, 19, text.charAt(i), 0, 0, program, model);
        }
        for (int i = 0; i < 430; i++) {
            compare(-1, 64 + i, 22, 0, 0, 0, program, model);
        }
        compare(-1, 494, 12, 4, 0, 0, program, model);
        if (model.sumOfAmounts() <= Integer.MAX_VALUE) {
            wrong++;
            System.out.println("the loud run is not loud enough: " + model.sumOfAmounts());
        }
    }

    private static int nextCall(int mood, boolean inOrder) {
        if (inOrder && pick(10) != 0) return 19;
        switch (mood) {
            case 0: return pick(23);
            case 1: return pick(3) == 0 ? pick(2) : pick(23);
            case 2: return pick(3) == 0 ? 19 + pick(4) : pick(23);
            default: return pick(4) == 0 ? 18 - 18 * pick(2) : pick(23);
        }
    }

    private static String order() {
        String kinds = pick(15) == 0 ? "sztfkgx;,-0 S" : "sztfkg";
        char kind = kinds.charAt(pick(kinds.length()));
        String order = "" + kind;
        switch (kind) {
            case 's': order += number(-20000, 20000); break;
            case 'z': order += number(1, 200); break;
            case 't': order += number(0, 3) + "," + number(1, 64) + "," + number(-900, 900); break;
            case 'f': order += number(1, 64) + "," + number(0, 950); break;
            default: order += number(1, 20); break;
        }
        return pick(25) == 0 ? order : order + ";";
    }

    private static String number(int least, int most) {
        int number = within(least, most);
        if (pick(12) == 0) number = pick(2) == 0 ? least - 1 - pick(2) : most + 1 + pick(300);
        if (pick(80) == 0) number = 99990 + pick(20);
        String digits = Integer.toString(Math.abs(number));
        for (int zeros = pick(6) == 0 ? pick(6) : 0; zeros > 0; zeros--) digits = "0" + digits;
        return (number < 0 || pick(60) == 0 ? "-" : "") + digits;
    }

    private static void compareAll(int run, int i, SharedEchoes program, PlainModel model) {
        for (int word = 0; word < 64; word++) compare(run, i, 10, word, 0, 0, program, model);
        for (int index = 0; index < 13; index++) compare(run, i, 11, index, 0, 0, program, model);
        for (int what = 0; what < 5; what++) compare(run, i, 12, what, 0, 0, program, model);
        for (int what = 0; what < 22; what++) compare(run, i, 17, what, 0, 0, program, model);
        for (int what = 0; what < 3; what++) compare(run, i, 21, what, 0, 0, program, model);
        for (int tap = 0; tap < 5; tap++) {
            for (int what = 0; what < 5; what++) compare(run, i, 9, tap, what, 0, program, model);
        }
    }

    private static void compare(int run, int i, int call, int a, int b, int c, SharedEchoes program, PlainModel model) {
        int due = answerOfModel(model, call, a, b, c);
        int got;
        try {
            got = answerOfProgram(program, call, a, b, c);
        } catch (RuntimeException thrown) {
            wrong++;
            System.out.println("run " + run + ", call " + i + ": " + describe(call, a, b, c) + " threw " + thrown);
            return;
        }
        if (got != due) {
            wrong++;
            System.out.println("run " + run + ", call " + i + ": " + describe(call, a, b, c) + " answered " + got + ", due is " + due);
        }
    }

    private static String describe(int call, int a, int b, int c) {
        int many = ARGUMENTS[call];
        return NAMES[call] + "(" + (many > 0 ? "" + a : "") + (many > 1 ? ", " + b : "") + (many > 2 ? ", " + c : "") + ")";
    }

    private static int answerOfProgram(SharedEchoes x, int call, int a, int b, int c) {
        switch (call) {
            case 0: return x.sample(a);
            case 1: return x.silence(a);
            case 2: return x.tap(a, b, c);
            case 3: return x.off(a);
            case 4: return x.feedback(a, b);
            case 5: return x.steal(a);
            case 6: return x.giveBack(a);
            case 7: return x.set(a, b);
            case 8: return x.reset();
            case 9: return x.tapOf(a, b);
            case 10: return x.wordOf(a);
            case 11: return x.outputOf(a);
            case 12: return x.meter(a);
            case 13: return x.echo(a, b);
            case 14: return x.quietAfter(a);
            case 15: return x.loudest();
            case 16: return x.safeGain(a, b);
            case 17: return x.count(a);
            case 18: return x.undo();
            case 19: return x.type(a);
            case 20: return x.clearText();
            case 21: return x.fault(a);
            default: return x.play();
        }
    }

    private static int answerOfModel(PlainModel x, int call, int a, int b, int c) {
        switch (call) {
            case 0: return x.sample(a);
            case 1: return x.silence(a);
            case 2: return x.tap(a, b, c);
            case 3: return x.off(a);
            case 4: return x.feedback(a, b);
            case 5: return x.steal(a);
            case 6: return x.giveBack(a);
            case 7: return x.set(a, b);
            case 8: return x.reset();
            case 9: return x.tapOf(a, b);
            case 10: return x.wordOf(a);
            case 11: return x.outputOf(a);
            case 12: return x.meter(a);
            case 13: return x.echo(a, b);
            case 14: return x.quietAfter(a);
            case 15: return x.loudest();
            case 16: return x.safeGain(a, b);
            case 17: return x.count(a);
            case 18: return x.undo();
            case 19: return x.type(a);
            case 20: return x.clearText();
            case 21: return x.fault(a);
            default: return x.play();
        }
    }
}
