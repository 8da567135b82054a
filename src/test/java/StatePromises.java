/** Promises 4 to 14: taps, feedback, memory, and what there is. */
final class StatePromises {
    @Says(in = "Promise 4", text = "`int tap(int tap, int delay, int gain)`: Sets a tap, which is on then.")
    static void tapSetsATapWhichIsOnThen() {
        Echoes x = new Echoes();
        x.due(0, "tap", 1, 7, 30).due(1, "count", 2).due(7, "tapOf", 1, 0).due(30, "tapOf", 1, 1).due(1, "count", 7);
        // It may be on already, and comes back as it is set.
        x.due(0, "tap", 1, 8, -31).due(1, "count", 2).due(8, "tapOf", 1, 0).due(-31, "tapOf", 1, 1);
        x.due(8, "off", 1).due(0, "count", 2).due(0, "tap", 1, 9, 0).due(1, "count", 2).due(9, "tapOf", 1, 0).due(0, "tapOf", 1, 1);
    }

    @Says(in = "Promise 4", text = {"- `tap`: 0 to 3", "- `delay`: 1 to 64", "- `gain`: -900 to 900", "INVALID_ARGUMENT if an argument is out of range."})
    static void tapTakesWhatIsInItsRanges() {
        Echoes.range("tap", 0, 0, 3, 0, 1, 1);
        Echoes.range("tap", 1, 1, 64, 0, 1, 1);
        Echoes.range("tap", 2, -900, 900, 0, 1, 1);
    }

    @Says(in = "Promise 4", text = "Returns 1 if it is lost, otherwise 0;")
    static void tapTellsWhetherItIsLost() {
        Echoes x = new Echoes();
        x.due(0, "tap", 0, 64, 1).due(63, "steal", 1).due(1, "tap", 0, 64, 1).due(0, "tap", 0, 63, 1);
        x.due(16, "steal", 47).due(1, "tap", 3, 17, 1).due(0, "tap", 3, 16, 1).due(0, "tap", 3, 1, 1);
        // Without a gain, too.
        x.due(1, "tap", 3, 64, 0);
    }

    @Says(in = "Promise 5", text = {"`int off(int tap)`: Turns a tap off.", "Returns its delay;"})
    static void offReturnsTheDelay() {
        Echoes x = Echoes.with("t0,1,900;t3,64,-900;s1000;");
        x.due(1, "off", 0).due(Echoes.MISSING, "tapOf", 0, 1).due(1, "count", 2).due(0, "sample", 0).due(3, "count", 7);
        x = Echoes.with("t0,1,900;t3,64,-900;k1;");
        x.due(1, "count", 3).due(64, "off", 3).due(0, "count", 3).due(1, "count", 2).due(14400, "loudest");
    }

    @Says(in = "Promise 5", text = {"- `tap`: 0 to 3", "INVALID_ARGUMENT if tap is out of range;"})
    static void offTakes0To3() {
        Echoes.range("off", 0, 0, 3, 0);
        Echoes x = Echoes.with("t0,1,1;t1,1,1;t2,1,1;t3,1,1;");
        x.due(Echoes.INVALID, "off", 4).due(Echoes.INVALID, "off", -1).due(4, "count", 2).due(1, "off", 3).due(1, "off", 0);
    }

    @Says(in = "Promise 5", text = "NOT_POSSIBLE if it is off.")
    static void offIsNotPossibleIfItIsOff() {
        Echoes x = new Echoes();
        for (int tap = 0; tap < 4; tap++) {
            x.due(Echoes.IMPOSSIBLE, "off", tap).due(0, "tap", tap, 5, 0).due(5, "off", tap).due(Echoes.IMPOSSIBLE, "off", tap);
        }
        x.due(3, "undo").due(5, "off", 3).due(Echoes.IMPOSSIBLE, "off", 3);
    }

    @Says(in = "Promise 6", text = {"`int feedback(int delay, int gain)`: Sets the feedback.", "Returns the gain that it had;"})
    static void feedbackReturnsTheGainThatItHad() {
        Echoes x = new Echoes();
        x.due(0, "feedback", 5, 300).due(300, "feedback", 6, 301).due(301, "feedback", 6, 0).due(0, "feedback", 7, 950);
        x.due(7, "tapOf", 4, 0).due(950, "tapOf", 4, 1).due(4, "count", 7);
        // If it is lost, too.
        x = Echoes.with("f17,300;k48;");
        x.due(300, "feedback", 64, 299).due(299, "feedback", 1, 0).due(1, "tapOf", 4, 0);
    }

    @Says(in = "Promise 6", text = {"- `delay`: 1 to 64", "- `gain`: 0 to 950", "INVALID_ARGUMENT if an argument is out of range."})
    static void feedbackTakesWhatIsInItsRanges() {
        Echoes.range("feedback", 0, 1, 64, 1, 1);
        Echoes.range("feedback", 1, 0, 950, 1, 1);
    }

    @Says(in = "Promise 7", text = {"`int steal(int words)`: Lets the program steal words.", "Returns the length of the ring then;"})
    static void stealReturnsTheLengthOfTheRing() {
        Echoes x = new Echoes();
        x.due(63, "steal", 1).due(61, "steal", 2).due(16, "steal", 45).due(16, "count", 0).due(48, "count", 1).due(48, "count", 6);
        new Echoes().due(16, "steal", 48).due(48, "count", 6).due(1, "count", 7);
    }

    @Says(in = "Promise 7", text = {"- `words`: 1 to 48", "INVALID_ARGUMENT if words is out of range;"})
    static void stealTakes1To48() {
        Echoes.range("steal", 0, 1, 48, 1);
    }

    @Says(in = "Promise 7", text = "LIMIT_REACHED if the program would have more than 48.")
    static void stealReachesItsLimitAt48() {
        Echoes x = new Echoes();
        x.due(63, "steal", 1).due(Echoes.LIMIT, "steal", 48).due(63, "count", 0).due(16, "steal", 47).due(Echoes.LIMIT, "steal", 1);
        x.due(17, "giveBack", 1).due(Echoes.LIMIT, "steal", 2).due(16, "steal", 1).due(Echoes.LIMIT, "steal", 48).due(49, "count", 6);
    }

    @Says(in = "Promise 8", text = {"`int giveBack(int words)`: Lets the program give words back.", "Returns the length of the ring then;"})
    static void giveBackReturnsTheLengthOfTheRing() {
        Echoes x = Echoes.with("k48;");
        x.due(17, "giveBack", 1).due(19, "giveBack", 2).due(64, "giveBack", 45).due(64, "count", 0).due(0, "count", 1).due(48, "count", 6);
        Echoes.with("k48;").due(64, "giveBack", 48).due(2, "count", 7);
    }

    @Says(in = "Promise 8", text = {"- `words`: 1 to 48", "INVALID_ARGUMENT if words is out of range;"})
    static void giveBackTakes1To48() {
        Echoes.range("giveBack", 0, 1, 48, 1);
        Echoes.with("k48;").due(Echoes.INVALID, "giveBack", 0).due(Echoes.INVALID, "giveBack", 49).due(16, "count", 0);
    }

    @Says(in = "Promise 8", text = "NOT_POSSIBLE if the program has fewer.")
    static void giveBackIsNotPossibleIfTheProgramHasFewer() {
        Echoes x = new Echoes();
        x.due(Echoes.IMPOSSIBLE, "giveBack", 1).due(Echoes.IMPOSSIBLE, "giveBack", 48).due(54, "steal", 10);
        x.due(Echoes.IMPOSSIBLE, "giveBack", 11).due(54, "count", 0).due(64, "giveBack", 10).due(Echoes.IMPOSSIBLE, "giveBack", 1);
        x.due(63, "steal", 1).due(Echoes.IMPOSSIBLE, "giveBack", 2).due(64, "giveBack", 1);
    }

    @Says(in = "Promise 9", text = {"`int set(int what, int value)`: Sets a setting.", "Returns what it was;"})
    static void setReturnsWhatItWas() {
        Echoes x = new Echoes();
        x.due(16000, "set", 0, 200).due(200, "set", 0, 201).due(0, "set", 1, 1).due(1, "set", 1, 2).due(201, "count", 20).due(2, "count", 21);
        x.due(201, "set", 0, 201).due(2, "set", 1, 2).due(4, "count", 7);
        // Words, outputs and meters stay as they are.
        x = Echoes.with("s9000;");
        x.due(16000, "set", 0, 100).words(9000).outputs(9000).meters(1, 9000, 0, 0);
    }

    @Says(in = "Promise 9", text = {"- `what`: 0 or 1", "INVALID_ARGUMENT if an argument is out of range."})
    static void setKnows0And1() {
        for (int value : new int[] {0, 1, 2, 100, 16000}) {
            for (int what : new int[] {-1, 2, 3, 20, 21, Integer.MIN_VALUE, Integer.MAX_VALUE}) {
                new Echoes().due(Echoes.INVALID, "set", what, value).due(16000, "count", 20).due(0, "count", 21);
            }
        }
    }

    @Says(in = "Promise 9", text = "- `value`: a value in its range")
    static void setTakesTheRangeOfTheSetting() {
        Echoes.range("set", 1, 100, 30000, 0, 100);
        Echoes.range("set", 1, 0, 2, 1, 0);
        // The range of one setting is not that of the other.
        new Echoes().due(Echoes.INVALID, "set", 1, 100).due(Echoes.INVALID, "set", 0, 2).due(Echoes.INVALID, "set", 0, 0);
    }

    @Says(in = "Promise 10", text = {"`int reset()`: Resets the meters.", "Returns how many samples they told of."})
    static void resetReturnsTheSamples() {
        Echoes x = new Echoes();
        x.due(0, "reset").due(1, "count", 7).samples(1, 2).due(2, "reset").due(0, "reset");
        x.due(0, "silence", 200).samples(20000).due(201, "reset").meters(0, 0, 0, 0).due(Echoes.MISSING, "meter", 4);
        x.words(16000).due(1, "count", 5).samples(-3).meters(1, 3, 0, 0).mean(3f).due(1, "reset");
    }

    @Says(in = "Promise 11", text = {"`int tapOf(int tap, int what)`: Returns something of a tap.", "- `tap`: 0 to 3, or 4: the feedback"})
    static void tapOfTellsOfTapsAndOfTheFeedback() {
        Echoes x = Echoes.with("t0,1,10;t1,2,20;t2,3,30;t3,4,40;f5,50;");
        for (int tap = 0; tap <= 4; tap++) {
            x.due(tap + 1, "tapOf", tap, 0).due(10 * tap + 10, "tapOf", tap, 1).due(0, "tapOf", tap, 2);
        }
        Echoes.range("tapOf", 0, 0, 4, 0, 0);
    }

    @Says(in = "Promise 11", text = {"- `what`: 0: its delay; 1: its gain; 2: 1 if it is lost, otherwise 0; 3: what it reads now;",
        "4: its share: the gain in thousandths of what it reads", "Returns the number;"})
    static void tapOfTellsFiveThings() {
        Echoes x = Echoes.with("t1,3,-333;f2,700;s1000;s-999;s5;");
        int[] tap = {3, -333, 0, 1000, -333};
        int[] feedback = {2, 700, 0, -999, -699};
        for (int what = 0; what < 5; what++) {
            x.due(tap[what], "tapOf", 1, what).due(feedback[what], "tapOf", 4, what);
        }
        x.samples(0).due(-999, "tapOf", 1, 3).due(332, "tapOf", 1, 4);
    }

    @Says(in = "Promise 11", text = "2: 1 if it is lost, otherwise 0; 3: what it reads now; 4: its share")
    static void tapOfTellsWhatIsLost() {
        Echoes x = Echoes.with("t2,17,900;f17,800;s1000;z16;k47;");
        x.due(0, "tapOf", 2, 2).due(1000, "tapOf", 2, 3).due(900, "tapOf", 2, 4);
        x.due(0, "tapOf", 4, 2).due(1000, "tapOf", 4, 3).due(800, "tapOf", 4, 4).due(16, "steal", 1);
        int[] tap = {17, 900, 1, 0, 0};
        int[] feedback = {17, 800, 1, 0, 0};
        for (int what = 0; what < 5; what++) {
            x.due(tap[what], "tapOf", 2, what).due(feedback[what], "tapOf", 4, what);
        }
        x.due(17, "giveBack", 1).due(0, "tapOf", 2, 2).due(0, "tapOf", 2, 3).due(0, "tapOf", 4, 2).due(0, "tapOf", 4, 3);
    }

    @Says(in = "Promise 11", text = "INVALID_ARGUMENT if an argument is out of range;")
    static void tapOfTakesWhatIsInItsRanges() {
        Echoes.range("tapOf", 1, 0, 4, 0, 0);
        Echoes.range("tapOf", 1, 0, 4, 4, 0);
        Echoes x = Echoes.with("t0,1,1;");
        x.due(Echoes.INVALID, "tapOf", 0, 5).due(Echoes.INVALID, "tapOf", 0, -1).due(Echoes.INVALID, "tapOf", 4, 5);
    }

    @Says(in = "Promise 11", text = "NOT_FOUND if it is off.")
    static void tapOfFindsNothingIfItIsOff() {
        Echoes x = Echoes.with("t1,16,1;t2,17,1;k48;");
        for (int what = 0; what < 5; what++) {
            x.due(Echoes.MISSING, "tapOf", 0, what).due(Echoes.MISSING, "tapOf", 3, what);
        }
        x.due(16, "off", 1).due(17, "off", 2);
        for (int what = 0; what < 5; what++) {
            x.due(Echoes.MISSING, "tapOf", 1, what).due(Echoes.MISSING, "tapOf", 2, what);
        }
        // The feedback is never off, without a gain or lost as it may be.
        x.due(16, "tapOf", 4, 0).due(0, "feedback", 64, 0).due(64, "tapOf", 4, 0).due(1, "tapOf", 4, 2).due(0, "tapOf", 4, 4);
    }

    @Says(in = "Promise 12", text = {"`int wordOf(int word)`: Returns a word of the ring.", "Returns the number in it;"})
    static void wordOfReturnsTheNumber() {
        Echoes x = new Echoes();
        for (int i = 1; i <= 70; i++) {
            x.samples(i % 2 == 0 ? i : -i);
        }
        for (int word = 0; word < 64; word++) {
            int number = 70 - word;
            x.due(number % 2 == 0 ? number : -number, "wordOf", word);
        }
    }

    @Says(in = "Promise 12", text = {"- `word`: 0 to 63", "INVALID_ARGUMENT if word is out of range;"})
    static void wordOfTakes0To63() {
        Echoes.range("wordOf", 0, 0, 63, 0);
        Echoes.with("k48;").due(Echoes.INVALID, "wordOf", 64).due(Echoes.INVALID, "wordOf", -1);
    }

    @Says(in = "Promise 12", text = "NOT_FOUND if the program has it.")
    static void wordOfDoesNotFindWhatTheProgramHas() {
        Echoes x = Echoes.with("k1;");
        x.due(Echoes.MISSING, "wordOf", 63).due(0, "wordOf", 62).due(64, "giveBack", 1).due(0, "wordOf", 63);
        x.due(16, "steal", 48);
        for (int word = 0; word < 64; word++) {
            x.due(word < 16 ? 0 : Echoes.MISSING, "wordOf", word);
        }
        x.samples(7).due(7, "wordOf", 0).due(Echoes.MISSING, "wordOf", 16);
    }

    @Says(in = "Promise 13", text = {"`int outputOf(int index)`: Returns an output that is kept.", "- `index`: 0 for the latest one, and so on", "Returns the output;"})
    static void outputOfReturnsTheOutput() {
        Echoes x = Echoes.with("t0,1,-500;s100;s20000;");
        x.outputs(16000, 100).due(-8000, "sample", 0).outputs(-8000, 16000, 100);
        x.due(0, "silence", 12).outputs(0, 0, 0, 0, 0, 0, 0, 0, 0, 0, 0, 0);
    }

    @Says(in = "Promise 13", text = "INVALID_ARGUMENT if index is negative;")
    static void outputOfTakesNoNegativeIndex() {
        Echoes x = new Echoes();
        x.due(Echoes.INVALID, "outputOf", -1).due(Echoes.INVALID, "outputOf", Integer.MIN_VALUE).samples(5);
        x.due(Echoes.INVALID, "outputOf", -1).due(5, "outputOf", 0).due(Echoes.INVALID, "outputOf", -12).due(Echoes.INVALID, "outputOf", -13);
    }

    @Says(in = "Promise 13", text = "NOT_FOUND if there are not so many.")
    static void outputOfFindsNoMoreThanThereAre() {
        Echoes x = new Echoes();
        x.due(Echoes.MISSING, "outputOf", 0);
        for (int many = 1; many <= 26; many++) {
            x.samples(many).due(Math.max(many - 11, 1), "outputOf", Math.min(many, 12) - 1).due(Echoes.MISSING, "outputOf", Math.min(many, 12));
        }
        x.due(Echoes.MISSING, "outputOf", 13).due(Echoes.MISSING, "outputOf", 63).due(Echoes.MISSING, "outputOf", Integer.MAX_VALUE);
    }

    @Says(in = "Promise 14", text = {"`int meter(int what)`: Returns a meter.",
        "- `what`: 0: samples; 1: the greatest amount of an output; 2: outputs that were held; 3: numbers for the ring that were held;",
        "Returns the number;"})
    static void meterReturnsTheNumber() {
        Echoes x = Echoes.with("t0,1,900;f1,900;s-16000;s-1601;s1;");
        // The outputs are -16000, -16000 (held) and -14399; the words are -16000, -16000 (held) and -14399.
        x.meters(3, 16000, 1, 1);
        x = Echoes.with("s-7;s20000;s-20000;s5;");
        x.meters(4, 16000, 2, 2);
        x = Echoes.with("t0,1,900;s16000;s16000;s16000;");
        x.meters(3, 16000, 2, 0);
        x = Echoes.with("f1,900;s16000;s16000;s16000;s0;");
        x.meters(4, 16000, 0, 2);
    }

    @Says(in = "Promise 14", text = {"4: the bits of the mean amount of outputs, as a float:",
        "the sum of amounts, as a float, divided by how many there are, as a float"})
    static void meterTellsTheBitsOfTheMean() {
        Echoes x = new Echoes();
        x.samples(0).due(0, "meter", 4).samples(1).due(0x3f000000, "meter", 4);
        int sum = 1;
        for (int i = 3; i <= 120; i++) {
            int amount = i * i * 37 % 16001;
            sum += amount;
            x.samples(i % 2 == 0 ? amount : -amount).mean((float) sum / (float) i);
        }
        int[][] exact = {{1, 0x3f800000}, {2, 0x40000000}, {3, 0x40400000}, {16000, 0x467a0000}};
        for (int[] row : exact) {
            x = new Echoes();
            x.samples(row[0]).due(row[1], "meter", 4);
        }
        // Far below 1, and thirds, which end nowhere.
        x = Echoes.with("s1;");
        for (int i = 1; i <= 250; i++) {
            x.due(0, "silence", 200).mean(1f / (float) (1 + 200 * i));
        }
        Echoes.with("s1;s0;s0;").due(0x3eaaaaab, "meter", 4);
        Echoes.with("s2;s0;s0;").due(0x3f2aaaab, "meter", 4);
    }

    @Says(in = "Promise 14", text = "the sum of amounts, as a float")
    static void theSumBecomesAFloatBeforeItIsDivided() {
        // 2^24 + 1 is no float: of 1049 samples the sum is this, which becomes 2^24.
        Echoes x = new Echoes();
        int left = (1 << 24) + 1;
        x.write("s16000;s16000;s16000;s16000;s16000;s16000;s16000;s16000;");
        while (left > 8 * 16000) {
            x.due(8, "play");
            left -= 8 * 16000;
        }
        int samples = 8 * ((1 << 24) / (8 * 16000));
        while (left > 0) {
            int number = Math.min(left, 16000);
            x.due(number, "sample", number);
            left -= number;
            samples++;
        }
        x.due(samples, "meter", 0).mean((float) (1 << 24) / (float) samples);
    }

    @Says(in = "Promise 14", text = "INVALID_ARGUMENT if what is out of range;")
    static void meterTakes0To4() {
        Echoes.range("meter", 0, 0, 4, 0);
        Echoes.with("s1;").due(Echoes.INVALID, "meter", 5).due(Echoes.INVALID, "meter", -1);
    }

    @Says(in = "Promise 14", text = "NOT_FOUND for 4 if there was no sample.")
    static void thereIsNoMeanWithoutASample() {
        Echoes x = new Echoes();
        x.due(Echoes.MISSING, "meter", 4).meters(0, 0, 0, 0).due(0, "sample", 0).due(0, "meter", 4);
        x.due(1, "reset").due(Echoes.MISSING, "meter", 4).due(1, "undo").due(0, "meter", 4).due(0, "undo").due(Echoes.MISSING, "meter", 4);
    }
}
