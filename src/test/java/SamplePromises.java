/** Promises 1 to 3: a new object, and samples that go through. */
final class SamplePromises {
    @Says(in = "Promise 1", text = "`SharedEchoes()`: Creates an echo without taps.")
    static void aNewEchoHasNoTaps() {
        Echoes x = new Echoes();
        x.due(0, "count", 2).due(0, "count", 3).due(0, "loudest");
        for (int tap = 0; tap < 4; tap++) {
            for (int what = 0; what < 5; what++) {
                x.due(Echoes.MISSING, "tapOf", tap, what);
            }
        }
        x.due(1000, "echo", 1000, 0);
        for (int after = 1; after <= 200; after++) {
            x.due(0, "echo", 20000, after);
        }
    }

    @Says(in = "Promise 1", text = "Creates an echo")
    static void eachEchoIsOneOfItsOwn() {
        Echoes x = Echoes.with("t0,1,900;f1,900;k48;s777;");
        x.write("s1;");
        Echoes y = new Echoes();
        y.words(new int[64]).outputs().meters(0, 0, 0, 0).due(0, "count", 1).due(0, "count", 2).due(0, "count", 6).due(0, "count", 7);
        y.due(0, "count", 8).due(16, "tapOf", 4, 0).due(0, "tapOf", 4, 1).due(Echoes.IMPOSSIBLE, "undo");
        y.samples(5);
        x.words(777).due(1, "meter", 0).due(1, "count", 7).due(3, "count", 8);
    }

    @Says(in = "Promise 2", text = {"`int sample(int number)`: Lets a sample go through.", "Returns the output;"})
    static void sampleReturnsTheOutput() {
        Echoes x = Echoes.with("t0,2,500;t1,1,-100;f1,300;");
        x.due(1000, "sample", 1000).due(2000 - 100, "sample", 2000).due(500 - 230, "sample", 0);
        x.outputs(270, 1900, 1000).words(690, 2300, 1000).meters(3, 1900, 0, 0).due(4, "count", 7);
        x.due(-16000, "sample", -20000).due(0, "count", 8);
    }

    @Says(in = "Promise 2", text = {"- `number`: -20000 to 20000", "INVALID_ARGUMENT if number is out of range."})
    static void sampleTakesMinus20000To20000() {
        Echoes.range("sample", 0, -20000, 20000, 0);
    }

    @Says(in = "Promise 3", text = {"`int silence(int many)`: Lets samples that are 0 go through.", "Returns the greatest amount of their outputs;"})
    static void silenceReturnsTheGreatestAmount() {
        Echoes x = Echoes.with("t0,2,-500;t1,4,200;s1000;");
        x.due(0, "silence", 1).due(500, "silence", 1).due(200, "silence", 2).due(0, "silence", 200).due(205, "meter", 0);
        x = Echoes.with("t0,2,-500;t1,4,200;s1000;");
        x.due(500, "silence", 4).outputs(200, 0, -500, 0, 1000).words(0, 0, 0, 0, 1000);
        // Only their own outputs count, not the greatest one so far.
        x = Echoes.with("t0,64,100;s20000;");
        x.due(0, "silence", 63).due(1600, "silence", 1).due(0, "silence", 1).due(16000, "meter", 1);
        // Each lot of samples is one change.
        x = Echoes.with("s1;");
        x.due(0, "silence", 200).due(2, "count", 7).due(1, "undo").due(1, "meter", 0).words(1);
    }

    @Says(in = "Promise 3", text = {"- `many`: 1 to 200", "INVALID_ARGUMENT if many is out of range."})
    static void silenceTakes1To200() {
        Echoes.range("silence", 0, 1, 200, 1);
        new Echoes().due(0, "silence", 1).due(1, "meter", 0).due(0, "silence", 200).due(201, "meter", 0);
    }
}
