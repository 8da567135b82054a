/** For each promise of the document: what is ordinary, the edges that it names, and wrong arguments. */
public final class PromiseTests {
    private static final int INVALID = -1000001;
    private static final int IMPOSSIBLE = -1000002;
    private static final int LIMIT = -1000003;
    private static final int MISSING = -1000004;

    private static int wrong = 0;
    private static String promise = "";

    public static void main(String[] args) {
        constants();
        newObject();
        sampleTests();
        shapeTests();
        silenceTests();
        tapTests();
        offTests();
        feedbackTests();
        stealTests();
        giveBackTests();
        setTests();
        resetTests();
        tapOfTests();
        wordOfTests();
        outputOfTests();
        meterTests();
        meanTests();
        echoTests();
        quietAfterTests();
        loudestTests();
        safeGainTests();
        countTests();
        undoTests();
        everyChangeIsUndone();
        errorsChangeNothing();
        typeTests();
        clearTextTests();
        faultFormTests();
        faultCallTests();
        playTests();
        System.out.println(wrong == 0 ? "all promises are kept" : wrong + " answers are not as due");
        if (wrong != 0) {
            System.exit(1);
        }
    }

    private static void due(String call, int got, int want) {
        if (got != want) {
            wrong++;
            System.out.println(promise + ": " + call + " answered " + got + ", due is " + want);
        }
    }

    private static SharedEchoes with(String orders) {
        SharedEchoes x = new SharedEchoes();
        write(x, orders);
        x.play();
        x.clearText();
        return x;
    }

    private static void write(SharedEchoes x, String text) {
        for (int i = 0; i < text.length(); i++) {
            x.type(text.charAt(i));
        }
    }

    private static void constants() {
        promise = "the constants";
        due("INVALID_ARGUMENT", SharedEchoes.INVALID_ARGUMENT, -1000001);
        due("NOT_POSSIBLE", SharedEchoes.NOT_POSSIBLE, -1000002);
        due("LIMIT_REACHED", SharedEchoes.LIMIT_REACHED, -1000003);
        due("NOT_FOUND", SharedEchoes.NOT_FOUND, -1000004);
    }

    private static void newObject() {
        promise = "1, a new object";
        SharedEchoes x = new SharedEchoes();
        int[] counts = {64, 0, 0, 0, 0, 0, 0, 0, 0};
        for (int what = 0; what < counts.length; what++) {
            due("count(" + what + ")", x.count(what), counts[what]);
        }
        due("count(20)", x.count(20), 16000);
        due("count(21)", x.count(21), 0);
        for (int tap = 0; tap < 4; tap++) {
            due("tapOf(" + tap + ", 0)", x.tapOf(tap, 0), MISSING);
        }
        due("tapOf(4, 0)", x.tapOf(4, 0), 16);
        due("tapOf(4, 1)", x.tapOf(4, 1), 0);
        due("tapOf(4, 2)", x.tapOf(4, 2), 0);
        for (int word = 0; word < 64; word++) {
            due("wordOf(" + word + ")", x.wordOf(word), 0);
        }
        for (int what = 0; what < 4; what++) {
            due("meter(" + what + ")", x.meter(what), 0);
        }
        due("outputOf(0)", x.outputOf(0), MISSING);
        due("loudest()", x.loudest(), 0);
        due("undo()", x.undo(), IMPOSSIBLE);
        SharedEchoes y = new SharedEchoes();
        x.sample(77);
        due("wordOf(0) of another", y.wordOf(0), 0);
        due("count(7) of another", y.count(7), 0);
    }

    private static void sampleTests() {
        promise = "2, sample";
        SharedEchoes x = new SharedEchoes();
        due("sample(20001)", x.sample(20001), INVALID);
        due("sample(-20001)", x.sample(-20001), INVALID);
        due("sample(least)", x.sample(Integer.MIN_VALUE), INVALID);
        due("sample(most)", x.sample(Integer.MAX_VALUE), INVALID);
        due("sample(20000)", x.sample(20000), 16000);
        due("sample(-20000)", x.sample(-20000), -16000);
        due("sample(16000)", x.sample(16000), 16000);
        due("meter(2)", x.meter(2), 2);
        due("meter(3)", x.meter(3), 2);

        // Each tap reads the word ahead of the sample, and its share is rounded by itself.
        x = with("t0,1,500;t1,1,500;");
        due("sample(7)", x.sample(7), 7);
        due("sample(0), two shares of 3.5", x.sample(0), 6);
        x = with("t0,1,500;t1,1,-500;t2,2,900;t3,2,100;");
        x.sample(7);
        due("sample(0), shares that cancel", x.sample(0), 0);
        due("sample(1), shares of 6.3 and 0.7", x.sample(1), 7);
        x = with("t0,1,500;");
        x.sample(-7);
        due("sample(0), a share of -3.5", x.sample(0), -3);
        x = with("t0,1,-900;");
        x.sample(1);
        due("sample(0), a share of -0.9", x.sample(0), 0);

        // The taps do not go into the ring, the feedback does not go into the output.
        x = with("t0,1,900;f1,500;");
        x.sample(1000);
        due("sample(10)", x.sample(10), 910);
        due("wordOf(0)", x.wordOf(0), 510);
        due("wordOf(1)", x.wordOf(1), 1000);
        due("sample(0)", x.sample(0), 459);
        due("wordOf(0)", x.wordOf(0), 255);

        // A tap may read the last word of the ring, one behind it is lost.
        x = with("k48;t0,16,900;t1,17,900;s1000;z15;");
        due("sample(0)", x.sample(0), 900);
        due("sample(0), later", x.sample(0), 0);
    }

    private static void shapeTests() {
        promise = "2, shapes";
        SharedEchoes x = new SharedEchoes();
        x.set(0, 1001);
        int[] samples = {1001, 1002, -1001, -1002, 500, 501, 502, -503, 1500, 1502, 1503, 0};
        int[] cut = {1001, 1001, -1001, -1001, 500, 501, 502, -503, 1001, 1001, 1001, 0};
        int[] bent = {750, 751, -750, -751, 500, 500, 501, -501, 1000, 1001, 1001, 0};
        int[] gone = {1001, 0, -1001, 0, 500, 501, 502, -503, 0, 0, 0, 0};
        int[][] rows = {cut, bent, gone};
        for (int shape = 0; shape < 3; shape++) {
            x.set(1, shape);
            x.reset();
            int held = 0;
            for (int i = 0; i < samples.length; i++) {
                String call = "sample(" + samples[i] + ") by shape " + shape;
                due(call, x.sample(samples[i]), rows[shape][i]);
                due(call + ", wordOf(0)", x.wordOf(0), rows[shape][i]);
                held += rows[shape][i] == samples[i] ? 0 : 1;
                due(call + ", meter(2)", x.meter(2), held);
                due(call + ", meter(3)", x.meter(3), held);
            }
        }
        // What is held as an output need not be held as a word, and the other way round.
        x = with("t0,1,900;s10000;s10000;");
        due("meter(2)", x.meter(2), 1);
        due("meter(3)", x.meter(3), 0);
        x = with("f1,900;s10000;s10000;");
        due("meter(2)", x.meter(2), 0);
        due("meter(3)", x.meter(3), 1);
        due("wordOf(0)", x.wordOf(0), 16000);
        // Four taps at most: the sum is far above what a sample can be.
        x = new SharedEchoes();
        x.set(0, 30000);
        x.feedback(1, 950);
        for (int i = 0; i < 4; i++) {
            x.sample(20000);
        }
        for (int tap = 0; tap < 4; tap++) {
            x.tap(tap, tap + 1, 900);
        }
        x.set(1, 1);
        due("wordOf(0)", x.wordOf(0), 30000);
        due("sample(20000)", x.sample(20000), 30000);
        due("wordOf(0), held at the limit", x.wordOf(0), 30000);
    }

    private static void silenceTests() {
        promise = "3, silence";
        SharedEchoes x = with("t0,2,-500;t1,4,200;s1000;");
        due("silence(0)", x.silence(0), INVALID);
        due("silence(201)", x.silence(201), INVALID);
        due("silence(-1)", x.silence(-1), INVALID);
        due("meter(0)", x.meter(0), 1);
        due("silence(1)", x.silence(1), 0);
        due("silence(3)", x.silence(3), 500);
        due("outputOf(2)", x.outputOf(2), -500);
        due("outputOf(0)", x.outputOf(0), 200);
        due("meter(0)", x.meter(0), 5);
        due("silence(200)", x.silence(200), 0);
        due("meter(0)", x.meter(0), 205);
        due("count(7)", x.count(7), 4);
        due("undo()", x.undo(), 3);
        due("meter(0), undone", x.meter(0), 5);
    }

    private static void tapTests() {
        promise = "4, tap";
        SharedEchoes x = new SharedEchoes();
        int[][] bad = {{-1, 1, 0}, {4, 1, 0}, {0, 0, 0}, {0, 65, 0}, {0, 1, -901}, {0, 1, 901},
            {Integer.MIN_VALUE, 1, 0}, {0, Integer.MAX_VALUE, 0}, {0, 1, Integer.MIN_VALUE}};
        for (int[] a : bad) {
            due("tap(" + a[0] + ", " + a[1] + ", " + a[2] + ")", x.tap(a[0], a[1], a[2]), INVALID);
        }
        due("count(2)", x.count(2), 0);
        due("tap(0, 1, -900)", x.tap(0, 1, -900), 0);
        due("tap(3, 64, 900)", x.tap(3, 64, 900), 0);
        due("count(2)", x.count(2), 2);
        due("tapOf(0, 0)", x.tapOf(0, 0), 1);
        due("tapOf(0, 1)", x.tapOf(0, 1), -900);
        due("tapOf(3, 0)", x.tapOf(3, 0), 64);
        due("tapOf(3, 1)", x.tapOf(3, 1), 900);
        due("tap(3, 5, 0), set once more", x.tap(3, 5, 0), 0);
        due("tapOf(3, 0)", x.tapOf(3, 0), 5);
        due("tapOf(3, 1)", x.tapOf(3, 1), 0);
        due("count(2)", x.count(2), 2);
        x.steal(20);
        due("tap(1, 44, 1)", x.tap(1, 44, 1), 0);
        due("tap(2, 45, 1)", x.tap(2, 45, 1), 1);
        due("count(2)", x.count(2), 4);
    }

    private static void offTests() {
        promise = "5, off";
        SharedEchoes x = with("t0,7,100;t3,64,-5;");
        due("off(-1)", x.off(-1), INVALID);
        due("off(4)", x.off(4), INVALID);
        due("off(1)", x.off(1), IMPOSSIBLE);
        due("off(0)", x.off(0), 7);
        due("off(0), once more", x.off(0), IMPOSSIBLE);
        x.steal(1);
        due("off(3), lost", x.off(3), 64);
        due("count(2)", x.count(2), 0);
        due("count(3)", x.count(3), 0);
        x = with("t0,1,900;s1000;");
        x.off(0);
        due("sample(0)", x.sample(0), 0);
    }

    private static void feedbackTests() {
        promise = "6, feedback";
        SharedEchoes x = new SharedEchoes();
        due("feedback(0, 0)", x.feedback(0, 0), INVALID);
        due("feedback(65, 0)", x.feedback(65, 0), INVALID);
        due("feedback(1, -1)", x.feedback(1, -1), INVALID);
        due("feedback(1, 951)", x.feedback(1, 951), INVALID);
        due("tapOf(4, 0)", x.tapOf(4, 0), 16);
        due("feedback(1, 950)", x.feedback(1, 950), 0);
        due("feedback(64, 3)", x.feedback(64, 3), 950);
        due("feedback(2, 0)", x.feedback(2, 0), 3);
        due("tapOf(4, 0)", x.tapOf(4, 0), 2);
        x = with("f2,333;s-1000;z1;");
        x.sample(0);
        due("wordOf(0)", x.wordOf(0), -333);
        x.silence(2);
        due("wordOf(0), rounded towards 0", x.wordOf(0), -110);
        // Lost, it reads 0; with the words given back it reads again.
        x = with("f64,900;k1;s5000;z62;");
        x.sample(0);
        due("wordOf(0)", x.wordOf(0), 0);
        due("tapOf(4, 2)", x.tapOf(4, 2), 1);
        x = with("f64,900;k1;s5000;z62;g1;");
        due("tapOf(4, 2)", x.tapOf(4, 2), 0);
        x.silence(1);
        x.silence(1);
        due("wordOf(0)", x.wordOf(0), 4500);
    }

    private static void stealTests() {
        promise = "7, steal";
        SharedEchoes x = new SharedEchoes();
        due("steal(0)", x.steal(0), INVALID);
        due("steal(49)", x.steal(49), INVALID);
        due("steal(-5)", x.steal(-5), INVALID);
        due("steal(1)", x.steal(1), 63);
        due("steal(48)", x.steal(48), LIMIT);
        due("steal(49), when no more may go", x.steal(49), INVALID);
        due("steal(47)", x.steal(47), 16);
        due("steal(1), when no more may go", x.steal(1), LIMIT);
        due("count(0)", x.count(0), 16);
        due("count(1)", x.count(1), 48);
        due("count(6)", x.count(6), 48);
        x = new SharedEchoes();
        due("steal(48)", x.steal(48), 16);
        // The last words go, not the latest ones.
        x = new SharedEchoes();
        for (int i = 1; i <= 64; i++) {
            x.sample(i);
        }
        x.steal(10);
        due("wordOf(0)", x.wordOf(0), 64);
        due("wordOf(53)", x.wordOf(53), 11);
        due("wordOf(54)", x.wordOf(54), MISSING);
        x.sample(65);
        due("wordOf(53)", x.wordOf(53), 12);
        due("count(5)", x.count(5), 54);
    }

    private static void giveBackTests() {
        promise = "8, giveBack";
        SharedEchoes x = new SharedEchoes();
        due("giveBack(0)", x.giveBack(0), INVALID);
        due("giveBack(49)", x.giveBack(49), INVALID);
        due("giveBack(1)", x.giveBack(1), IMPOSSIBLE);
        for (int i = 1; i <= 64; i++) {
            x.sample(i);
        }
        x.steal(10);
        due("giveBack(11)", x.giveBack(11), IMPOSSIBLE);
        due("giveBack(3)", x.giveBack(3), 57);
        due("wordOf(53)", x.wordOf(53), 11);
        due("wordOf(54)", x.wordOf(54), 0);
        due("wordOf(56)", x.wordOf(56), 0);
        due("wordOf(57)", x.wordOf(57), MISSING);
        due("giveBack(7)", x.giveBack(7), 64);
        due("count(5)", x.count(5), 54);
        due("count(6)", x.count(6), 10);
        // What goes behind the end while the program has the words is gone, too.
        x = with("k48;s9;z15;z3;");
        due("giveBack(48)", x.giveBack(48), 64);
        due("count(5)", x.count(5), 0);
        due("count(4)", x.count(4), 0);
        x.sample(8);
        x.silence(40);
        due("wordOf(40)", x.wordOf(40), 8);
    }

    private static void setTests() {
        promise = "9, set";
        SharedEchoes x = new SharedEchoes();
        int[][] bad = {{-1, 100}, {2, 100}, {2, 1}, {0, 99}, {0, 30001}, {1, -1}, {1, 3}, {0, -16000}};
        for (int[] a : bad) {
            due("set(" + a[0] + ", " + a[1] + ")", x.set(a[0], a[1]), INVALID);
        }
        due("set(0, 100)", x.set(0, 100), 16000);
        due("set(0, 30000)", x.set(0, 30000), 100);
        due("set(1, 2)", x.set(1, 2), 0);
        due("set(1, 1)", x.set(1, 1), 2);
        due("set(1, 0)", x.set(1, 0), 1);
        due("count(20)", x.count(20), 30000);
        due("count(21)", x.count(21), 0);
        // Words stay as they are when the limit falls.
        x = with("s9000;");
        x.set(0, 100);
        due("wordOf(0)", x.wordOf(0), 9000);
    }

    private static void resetTests() {
        promise = "10, reset";
        SharedEchoes x = new SharedEchoes();
        due("reset()", x.reset(), 0);
        due("count(7)", x.count(7), 1);
        x = with("f1,900;s20000;s20000;s-3;");
        due("reset()", x.reset(), 3);
        for (int what = 0; what < 4; what++) {
            due("meter(" + what + ")", x.meter(what), 0);
        }
        due("meter(4)", x.meter(4), MISSING);
        due("outputOf(0), kept by a reset", x.outputOf(0), -3);
        due("outputOf(2), kept by a reset", x.outputOf(2), 16000);
        due("wordOf(1)", x.wordOf(1), 16000);
        x.sample(-4);
        due("meter(1)", x.meter(1), 4);
        due("meter(4)", x.meter(4), Float.floatToIntBits(4f));
        due("reset()", x.reset(), 1);
        due("undo()", x.undo(), 3);
        due("meter(0), undone", x.meter(0), 1);
        x.undo();
        x.undo();
        due("meter(0), undone", x.meter(0), 3);
        due("meter(2), undone", x.meter(2), 2);
        due("meter(3), undone", x.meter(3), 2);
        due("meter(4), undone", x.meter(4), Float.floatToIntBits(32003f / 3f));
    }

    private static void tapOfTests() {
        promise = "11, tapOf";
        SharedEchoes x = with("t1,3,-333;f2,700;s1000;s-999;s5;");
        int[][] bad = {{-1, 0}, {5, 0}, {1, -1}, {1, 5}, {0, 5}, {0, -1}, {4, 5}};
        for (int[] a : bad) {
            due("tapOf(" + a[0] + ", " + a[1] + ")", x.tapOf(a[0], a[1]), INVALID);
        }
        for (int what = 0; what < 5; what++) {
            due("tapOf(0, " + what + ")", x.tapOf(0, what), MISSING);
        }
        int[] tap = {3, -333, 0, 1000, -333};
        int[] back = {2, 700, 0, -999, -699};
        for (int what = 0; what < 5; what++) {
            due("tapOf(1, " + what + ")", x.tapOf(1, what), tap[what]);
            due("tapOf(4, " + what + ")", x.tapOf(4, what), back[what]);
        }
        x.sample(0);
        due("tapOf(1, 3)", x.tapOf(1, 3), -999);
        due("tapOf(1, 4)", x.tapOf(1, 4), 332);
        x = with("t2,17,900;f17,800;s1000;z16;k48;");
        due("tapOf(2, 2)", x.tapOf(2, 2), 1);
        due("tapOf(2, 3)", x.tapOf(2, 3), 0);
        due("tapOf(2, 4)", x.tapOf(2, 4), 0);
        due("tapOf(2, 0)", x.tapOf(2, 0), 17);
        due("tapOf(4, 2)", x.tapOf(4, 2), 1);
        due("tapOf(4, 3)", x.tapOf(4, 3), 0);
        x.giveBack(1);
        due("tapOf(2, 2), found again", x.tapOf(2, 2), 0);
        due("tapOf(2, 3), found again", x.tapOf(2, 3), 0);
    }

    private static void wordOfTests() {
        promise = "12, wordOf";
        SharedEchoes x = new SharedEchoes();
        due("wordOf(-1)", x.wordOf(-1), INVALID);
        due("wordOf(64)", x.wordOf(64), INVALID);
        due("wordOf(most)", x.wordOf(Integer.MAX_VALUE), INVALID);
        for (int i = 1; i <= 70; i++) {
            x.sample(i);
        }
        for (int word = 0; word < 64; word++) {
            due("wordOf(" + word + ")", x.wordOf(word), 70 - word);
        }
        x.steal(48);
        due("wordOf(15)", x.wordOf(15), 55);
        due("wordOf(16)", x.wordOf(16), MISSING);
        due("wordOf(63)", x.wordOf(63), MISSING);
        due("wordOf(64)", x.wordOf(64), INVALID);
    }

    private static void outputOfTests() {
        promise = "13, outputOf";
        SharedEchoes x = new SharedEchoes();
        due("outputOf(-1)", x.outputOf(-1), INVALID);
        due("outputOf(least)", x.outputOf(Integer.MIN_VALUE), INVALID);
        due("outputOf(0)", x.outputOf(0), MISSING);
        for (int i = 1; i <= 30; i++) {
            x.sample(-i);
            for (int index = 0; index < 13; index++) {
                boolean there = index < 12 && index < i;
                due("outputOf(" + index + ") behind " + i, x.outputOf(index), there ? index - i : MISSING);
            }
        }
        due("outputOf(most)", x.outputOf(Integer.MAX_VALUE), MISSING);
    }

    private static void meterTests() {
        promise = "14, meter";
        SharedEchoes x = new SharedEchoes();
        due("meter(-1)", x.meter(-1), INVALID);
        due("meter(5)", x.meter(5), INVALID);
        due("meter(4)", x.meter(4), MISSING);
        x.sample(-700);
        x.sample(20000);
        x.sample(-20000);
        x.sample(5);
        due("meter(0)", x.meter(0), 4);
        due("meter(1)", x.meter(1), 16000);
        due("meter(2)", x.meter(2), 2);
        due("meter(3)", x.meter(3), 2);
        due("meter(4)", x.meter(4), Float.floatToIntBits(32705f / 4f));
        x = with("s-700;s3;");
        due("meter(1), by an amount with a minus", x.meter(1), 700);
    }

    private static void meanTests() {
        promise = "14, the mean";
        SharedEchoes x = new SharedEchoes();
        x.sample(0);
        due("meter(4) of 0", x.meter(4), 0);
        int sum = 0;
        for (int i = 1; i <= 100; i++) {
            int amount = i * 137 % 16001;
            sum += amount;
            x.sample(i % 2 == 0 ? amount : -amount);
            due("meter(4) behind " + i, x.meter(4), Float.floatToIntBits((float) sum / (float) (i + 1)));
        }
        // Less than 1, and exactly 1.
        x = with("s1;");
        due("meter(4) of 1", x.meter(4), Float.floatToIntBits(1f));
        for (int i = 0; i < 20; i++) {
            x.silence(200);
            int many = 1 + 200 * (i + 1);
            due("meter(4) of 1 in " + many, x.meter(4), Float.floatToIntBits(1f / (float) many));
        }
        // More than a float holds exactly.
        x = new SharedEchoes();
        x.set(0, 30000);
        x.feedback(1, 950);
        x.tap(0, 1, 900);
        write(x, "s20000;s20000;s20000;s20000;s20000;s20000;s20000;s19999;");
        for (int i = 0; i < 400; i++) {
            x.play();
        }
        due("meter(0)", x.meter(0), 3200);
        due("meter(4), loud for long", x.meter(4), Float.floatToIntBits((float) (20000L + 30000L * 3199L) / 3200f));
    }

    private static void echoTests() {
        promise = "15, echo";
        SharedEchoes x = with("t0,3,500;t1,5,-250;f4,800;s777;s-55;");
        int[] due = {10000, 0, 0, 5000, 0, -2500, 0, 4000, 0, -2000, 0, 3200};
        for (int after = 0; after < due.length; after++) {
            due("echo(10000, " + after + ")", x.echo(10000, after), due[after]);
            due("echo(-10000, " + after + ")", x.echo(-10000, after), -due[after]);
        }
        due("echo(20000, 0), shaped", x.echo(20000, 0), 16000);
        due("echo(-20000, 0), shaped", x.echo(-20000, 0), -16000);
        due("echo(20000, 3), by a word that was shaped", x.echo(20000, 3), 8000);
        due("echo(20001, 0)", x.echo(20001, 0), INVALID);
        due("echo(-20001, 0)", x.echo(-20001, 0), INVALID);
        due("echo(0, -1)", x.echo(0, -1), INVALID);
        due("echo(0, 201)", x.echo(0, 201), INVALID);
        due("echo(0, 200)", x.echo(0, 200), 0);
        due("wordOf(0), as it was", x.wordOf(0), -55);
        due("meter(0), as it was", x.meter(0), 2);
        due("count(7), as it was", x.count(7), 1);
        x = with("f50,950;t0,50,900;");
        due("echo(20000, 200)", x.echo(20000, 200), 900 * (950 * (950 * (950 * 16000 / 1000) / 1000) / 1000) / 1000);
        // The ring has the length that it has now.
        x = with("t0,20,900;t1,16,100;k48;");
        due("echo(1000, 20), lost", x.echo(1000, 20), 0);
        due("echo(1000, 16)", x.echo(1000, 16), 100);
        x.set(1, 2);
        due("echo(16001, 0)", x.echo(16001, 0), 0);
    }

    private static void quietAfterTests() {
        promise = "16, quietAfter";
        SharedEchoes x = new SharedEchoes();
        due("quietAfter(-1)", x.quietAfter(-1), INVALID);
        due("quietAfter(20001)", x.quietAfter(20001), INVALID);
        due("quietAfter(0)", x.quietAfter(0), 0);
        x.sample(-1000);
        due("quietAfter(1000)", x.quietAfter(1000), 0);
        due("quietAfter(999)", x.quietAfter(999), 64);
        due("quietAfter(0)", x.quietAfter(0), 64);
        x.silence(10);
        due("quietAfter(0)", x.quietAfter(0), 54);
        due("meter(0), as it was", x.meter(0), 11);
        due("count(7), as it was", x.count(7), 2);
        x.feedback(11, 500);
        due("quietAfter(500)", x.quietAfter(500), 54);
        due("quietAfter(499)", x.quietAfter(499), 65);
        due("quietAfter(0)", x.quietAfter(0), 54 + 11 * 9);
        due("wordOf(10), as it was", x.wordOf(10), -1000);
        // A ring that is shorter is quiet sooner.
        x = with("k48;s1000;");
        due("quietAfter(999)", x.quietAfter(999), 16);
        // By the longest delay and the greatest gain a word is heard for longer than is looked ahead.
        x = with("f64,950;s20000;");
        due("quietAfter(0)", x.quietAfter(0), MISSING);
        due("quietAfter(16000)", x.quietAfter(16000), 0);
        due("quietAfter(15999)", x.quietAfter(15999), 64);
        // 500 samples are just enough, and just too few.
        x = with("f20,500;s64;z16;");
        due("quietAfter(0)", x.quietAfter(0), 64 - 16 + 6 * 20);
        x = edgeOfWait(436);
        due("quietAfter(0) at 500", x.quietAfter(0), 500);
        x = edgeOfWait(437);
        due("quietAfter(0) at 501", x.quietAfter(0), MISSING);
        x = with("s20000;");
        x.set(0, 100);
        due("quietAfter(20000)", x.quietAfter(20000), 0);
        x.set(0, 30000);
        x.feedback(1, 950);
        x.sample(20000);
        // The seventh word from now is the last one above: 30000 by 950 thousandths, seven times.
        due("quietAfter(20000)", x.quietAfter(20000), 7 + 64);
    }

    /** A ring in which the last word above 0 that is ever written comes so many samples from now. */
    private static SharedEchoes edgeOfWait(int samples) {
        // By 500 thousandths, 1024 is above 0 for ten rounds more; all of it is shifted by samples that are 0.
        int delay = (samples + 9) / 10;
        SharedEchoes x = new SharedEchoes();
        x.feedback(delay, 500);
        x.sample(1024);
        int behind = delay * 10 - samples;
        if (behind > 0) {
            x.silence(behind);
        }
        return x;
    }

    private static void loudestTests() {
        promise = "17, loudest";
        SharedEchoes x = new SharedEchoes();
        due("loudest()", x.loudest(), 0);
        x.tap(0, 1, 900);
        due("loudest()", x.loudest(), 14400);
        x.tap(1, 64, -900);
        due("loudest()", x.loudest(), 28800);
        x.tap(2, 3, 0);
        x.feedback(1, 950);
        due("loudest()", x.loudest(), 28800);
        x.steal(1);
        due("loudest(), one is lost", x.loudest(), 14400);
        x.giveBack(1);
        x.off(0);
        due("loudest()", x.loudest(), 14400);
        x.set(0, 999);
        x.tap(0, 1, 500);
        x.tap(1, 1, -500);
        due("loudest(), each rounded by itself", x.loudest(), 998);
        x.set(0, 30000);
        for (int tap = 0; tap < 4; tap++) {
            x.tap(tap, 16, tap % 2 == 0 ? 900 : -900);
        }
        due("loudest()", x.loudest(), 108000);
    }

    private static void safeGainTests() {
        promise = "18, safeGain";
        SharedEchoes x = new SharedEchoes();
        int[][] bad = {{0, 0}, {201, 0}, {-1, 0}, {1, -1}, {1, 20001}};
        for (int[] a : bad) {
            due("safeGain(" + a[0] + ", " + a[1] + ")", x.safeGain(a[0], a[1]), INVALID);
        }
        due("safeGain(1, 20000)", x.safeGain(1, 20000), 950);
        due("safeGain(1, 16000)", x.safeGain(1, 16000), 950);
        due("safeGain(63, 15999)", x.safeGain(63, 15999), 0);
        due("safeGain(64, 15999)", x.safeGain(64, 15999), 950);
        // Behind 16 * 4 samples there are words by one to four rounds: 16000 by the gain is at most 1600.
        due("safeGain(64, 1600)", x.safeGain(64, 1600), 100);
        due("safeGain(64, 1599)", x.safeGain(64, 1599), 99);
        due("safeGain(200, 0)", x.safeGain(200, 0), greatestQuietGain(16, 64, 200, 0, 16000));
        due("tapOf(4, 1), as it was", x.tapOf(4, 1), 0);
        due("count(5), as it was", x.count(5), 0);
        due("count(7), as it was", x.count(7), 0);
        x.sample(123);
        x.feedback(3, 700);
        x.tap(0, 1, 900);
        x.steal(40);
        for (int many = 1; many <= 200; many += 13) {
            for (int amount = 0; amount <= 20000; amount = amount * 3 + 1) {
                due("safeGain(" + many + ", " + amount + ")", x.safeGain(many, amount),
                    greatestQuietGain(3, 24, many, amount, 16000));
            }
        }
        x.feedback(25, 0);
        due("safeGain(24, 0), lost", x.safeGain(24, 0), 950);
        due("safeGain(23, 0), lost", x.safeGain(23, 0), 0);
    }

    /** By trying every gain; the shape is the first one and the sample is held by it. */
    private static int greatestQuietGain(int delay, int length, int many, int amount, int first) {
        for (int gain = 950; gain > 0; gain--) {
            int[] words = new int[many + 1];
            words[0] = first;
            for (int i = delay; i <= many; i++) {
                words[i] = gain * words[i - delay] / 1000;
            }
            boolean quiet = true;
            for (int i = Math.max(0, many + 1 - length); i <= many; i++) {
                quiet = quiet && words[i] <= amount;
            }
            if (quiet) {
                return gain;
            }
        }
        return 0;
    }

    private static void countTests() {
        promise = "19, count";
        SharedEchoes x = with("t0,1,500;t1,64,5;t3,20,-5;f64,1;k20;g1;k2;s-100;s30;s0;");
        int[] wanted = {43, 21, 3, 1, 130, 2, 22, 1, 0};
        for (int what = 0; what < wanted.length; what++) {
            due("count(" + what + ")", x.count(what), wanted[what]);
        }
        x.type('x');
        due("count(8)", x.count(8), 1);
        int[] bad = {-1, 9, 10, 19, 22, Integer.MIN_VALUE, Integer.MAX_VALUE};
        for (int what : bad) {
            due("count(" + what + ")", x.count(what), INVALID);
        }
        x.set(0, 200);
        x.set(1, 2);
        due("count(20)", x.count(20), 200);
        due("count(21)", x.count(21), 2);
        x.undo();
        x.undo();
        x.undo();
        due("count(6), undone", x.count(6), 0);
        due("count(8), not undone", x.count(8), 1);
    }

    private static void undoTests() {
        promise = "20, undo";
        SharedEchoes x = new SharedEchoes();
        due("undo()", x.undo(), IMPOSSIBLE);
        for (int i = 1; i <= 6; i++) {
            x.sample(i);
            due("count(7) behind " + i, x.count(7), Math.min(i, 4));
        }
        for (int i = 5; i >= 2; i--) {
            due("undo()", x.undo(), i - 2);
            due("wordOf(0)", x.wordOf(0), i);
            due("outputOf(0)", x.outputOf(0), i);
            due("outputOf(" + i + ")", x.outputOf(i), MISSING);
            due("meter(0)", x.meter(0), i);
        }
        due("undo(), when none is left", x.undo(), IMPOSSIBLE);
        due("wordOf(0)", x.wordOf(0), 2);
        x.sample(9);
        x.sample(10);
        due("undo()", x.undo(), 1);
        due("wordOf(0)", x.wordOf(0), 9);
        x.sample(11);
        due("undo()", x.undo(), 1);
        due("undo()", x.undo(), 0);
        due("wordOf(0)", x.wordOf(0), 2);
    }

    private static void everyChangeIsUndone() {
        promise = "20, undo of each change";
        for (int change = 0; change < 11; change++) {
            SharedEchoes x = with("t0,3,500;t1,60,-100;f2,300;k7;s900;s-20000;z3;");
            int[] before = everything(x);
            doChange(x, change);
            due("count(7) behind change " + change, x.count(7), 2);
            due("undo() of change " + change, x.undo(), 1);
            int[] after = everything(x);
            for (int i = 0; i < before.length; i++) {
                due("answer " + i + " behind the undo of change " + change, after[i], before[i]);
            }
        }
    }

    private static void doChange(SharedEchoes x, int change) {
        switch (change) {
            case 0: x.sample(20000); break;
            case 1: x.silence(5); break;
            case 2: x.tap(2, 9, 9); break;
            case 3: x.off(0); break;
            case 4: x.feedback(1, 950); break;
            case 5: x.steal(41); break;
            case 6: x.giveBack(7); break;
            case 7: x.set(0, 555); break;
            case 8: x.set(1, 2); break;
            case 9: x.reset(); break;
            default: x.play(); break;
        }
    }

    private static int[] everything(SharedEchoes x) {
        int[] all = new int[64 + 13 + 5 + 25 + 7 + 2];
        int at = 0;
        for (int word = 0; word < 64; word++) {
            all[at++] = x.wordOf(word);
        }
        for (int index = 0; index < 13; index++) {
            all[at++] = x.outputOf(index);
        }
        for (int what = 0; what < 5; what++) {
            all[at++] = x.meter(what);
        }
        for (int tap = 0; tap < 5; tap++) {
            for (int what = 0; what < 5; what++) {
                all[at++] = x.tapOf(tap, what);
            }
        }
        for (int what = 0; what < 7; what++) {
            all[at++] = x.count(what);
        }
        all[at++] = x.count(20);
        all[at] = x.count(21);
        return all;
    }

    private static void errorsChangeNothing() {
        promise = "a call that returns an error";
        SharedEchoes x = with("t0,3,500;k40;s900;");
        write(x, "k9;");
        int[] before = everything(x);
        x.sample(20001);
        x.silence(201);
        x.tap(1, 65, 3);
        x.off(1);
        x.feedback(2, 951);
        x.steal(9);
        x.giveBack(41);
        x.set(0, 99);
        x.play();
        x.type(31);
        int[] after = everything(x);
        for (int i = 0; i < before.length; i++) {
            due("answer " + i, after[i], before[i]);
        }
        due("count(7)", x.count(7), 1);
        due("count(8)", x.count(8), 3);
    }

    private static void typeTests() {
        promise = "21, type";
        SharedEchoes x = new SharedEchoes();
        due("type(31)", x.type(31), INVALID);
        due("type(127)", x.type(127), INVALID);
        due("type(-1)", x.type(-1), INVALID);
        due("type(32)", x.type(32), 1);
        due("type(126)", x.type(126), 2);
        for (int length = 3; length <= 60; length++) {
            due("type('a')", x.type('a'), length);
        }
        due("type('a'), when it is full", x.type('a'), LIMIT);
        due("type(31), when it is full", x.type(31), INVALID);
        due("count(8)", x.count(8), 60);
        due("count(7), no change", x.count(7), 0);
    }

    private static void clearTextTests() {
        promise = "22, clearText";
        SharedEchoes x = new SharedEchoes();
        due("clearText()", x.clearText(), 0);
        write(x, "s1;");
        due("clearText()", x.clearText(), 3);
        due("clearText()", x.clearText(), 0);
        due("count(8)", x.count(8), 0);
        due("fault(0)", x.fault(0), MISSING);
        due("count(7), no change", x.count(7), 0);
        write(x, "z");
        due("fault(2)", x.fault(2), 1);
    }

    private static void faultIs(SharedEchoes x, String text, int position, int reason, int cause) {
        x.clearText();
        write(x, text);
        due("fault(0) of " + text, x.fault(0), position);
        due("fault(1) of " + text, x.fault(1), reason);
        due("fault(2) of " + text, x.fault(2), cause);
    }

    private static void faultFormTests() {
        promise = "23, fault by the form";
        SharedEchoes x = new SharedEchoes();
        due("fault(-1)", x.fault(-1), INVALID);
        due("fault(3)", x.fault(3), INVALID);
        due("fault(0) of no text", x.fault(0), MISSING);
        String[] texts = {"x", ";", " s1;", "s", "s;", "s-", "s-;", "s--1;", "s1", "s1-;", "s123456;", "s00000;1", "z-1;",
            "z 1;", "t", "t0", "t0;", "t0,", "t0,1;", "t0,1,", "t0,1,-", "t0,1,-;", "t0,-1,1;", "t-0,1,1;", "t0,1,1,",
            "t0,1,123456", "t000000", "f1", "f1;", "f1,", "f1,-1;", "f1,1,1;", "f-1,1;", "k;", "k-1;", "k1,", "g", "g1 ;",
            "S1;", "s1z1;", "-1;", "0;"};
        int[] causes = {0, 0, 0, 1, 1, 2, 2, 2, 2, 2, 6, 0, 1,
            1, 1, 2, 2, 3, 4, 5, 6, 6, 3, 1, 6,
            10, 6, 2, 2, 3, 3, 4, 1, 1, 1, 2, 1, 2,
            0, 2, 0, 0};
        for (int i = 0; i < texts.length; i++) {
            x = new SharedEchoes();
            faultIs(x, texts[i], texts[i].equals("s00000;1") ? 7 : 0, 1, causes[i]);
        }
        faultIs(x, "z1;t3,64,-900;s-", 14, 1, 2);
        faultIs(x, "z1;z1;z1;z1;z1;z1;z1;z1;z1;z1;z1;z1;z1;z1;z1;z1;z1;z1;z1;z12", 57, 1, 3);
    }

    private static void faultCallTests() {
        promise = "23, fault by the call";
        SharedEchoes x = new SharedEchoes();
        String[] texts = {"s20001;", "s-20001;", "s99999;", "z0;", "z201;", "t4,1,1;", "t0,0,1;", "t0,65,1;", "t0,1,901;",
            "t0,1,-901;", "f0,1;", "f65,1;", "f1,951;", "k0;", "k49;", "g0;", "g49;"};
        for (String text : texts) {
            x = new SharedEchoes();
            faultIs(x, text, 0, 2, INVALID);
            faultIs(x, "s1;" + text + "x", 3, 2, INVALID);
        }
        x = new SharedEchoes();
        faultIs(x, "g1;", 0, 2, IMPOSSIBLE);
        faultIs(x, "k3;g2;g2;", 6, 2, IMPOSSIBLE);
        faultIs(x, "k48;k1;", 4, 2, LIMIT);
        faultIs(x, "k40;g3;k12;", 7, 2, LIMIT);
        faultIs(x, "k40;g3;k11;", MISSING, MISSING, MISSING);
        faultIs(x, "k48;g48;k48;", MISSING, MISSING, MISSING);
        String good = "s-0;s00020;s20000;z200;t00003,64,-900;f64,950;k1;g00001;";
        faultIs(x, good, MISSING, MISSING, MISSING);
        x.steal(48);
        faultIs(x, "k1;", 0, 2, LIMIT);
        faultIs(x, "g48;k1;k47;k1;", 11, 2, LIMIT);
        due("count(0), as it was", x.count(0), 16);
        due("count(7), no change", x.count(7), 1);
        due("meter(0), no sample", x.meter(0), 0);
    }

    private static void playTests() {
        promise = "24, play";
        SharedEchoes x = new SharedEchoes();
        due("play() of no text", x.play(), 0);
        due("count(7)", x.count(7), 1);
        write(x, "t0,3,500;f4,800;s-9000;z2;k9;g3;");
        due("play()", x.play(), 6);
        due("count(8), the text stays", x.count(8), 32);
        due("count(7), one change", x.count(7), 2);
        due("wordOf(2)", x.wordOf(2), -9000);
        due("tapOf(0, 0)", x.tapOf(0, 0), 3);
        due("tapOf(0, 1)", x.tapOf(0, 1), 500);
        due("tapOf(4, 0)", x.tapOf(4, 0), 4);
        due("tapOf(4, 1)", x.tapOf(4, 1), 800);
        due("count(0)", x.count(0), 58);
        due("count(6)", x.count(6), 9);
        due("meter(0)", x.meter(0), 3);
        due("play(), once more", x.play(), 6);
        due("outputOf(2)", x.outputOf(2), -9000 - 4500);
        due("wordOf(2)", x.wordOf(2), -9000);
        due("wordOf(1)", x.wordOf(1), -7200);
        due("count(0)", x.count(0), 52);
        due("undo()", x.undo(), 2);
        due("undo()", x.undo(), 1);
        due("meter(0), undone", x.meter(0), 0);
        due("count(0), undone", x.count(0), 64);
        x.type('?');
        due("play() of a fault", x.play(), IMPOSSIBLE);
        due("count(7)", x.count(7), 1);
        due("meter(0)", x.meter(0), 0);
        x = new SharedEchoes();
        write(x, "k20;k20;k20;");
        due("play() of a fault by a call", x.play(), IMPOSSIBLE);
        due("count(0)", x.count(0), 64);
        x.clearText();
        write(x, "s1;s1;s1;s1;s1;s1;s1;s1;s1;s1;s1;s1;s1;s1;s1;s1;s1;s1;s1;s1;");
        due("play() of 20 orders", x.play(), 20);
        due("meter(0)", x.meter(0), 20);
    }
}
