/** Promises 15 to 20: what would be. */
final class OutlookPromises {
    @Says(in = "Promise 15", text = {"`int echo(int number, int after)`: Tells what a single sample makes,", "and samples that are 0 follow.",
        "Returns the output of the sample that comes so much later;"})
    static void echoTellsWhatASampleMakes() {
        Echoes x = Echoes.with("t0,3,500;t1,5,-250;f4,800;");
        int[] due = {10000, 0, 0, 5000, 0, -2500, 0, 4000, 0, -2000, 0, 3200, 0, -1600};
        for (int after = 0; after < due.length; after++) {
            x.due(due[after], "echo", 10000, after).due(-due[after], "echo", -10000, after).due(0, "echo", 0, after);
        }
        // It is what the calls themselves would tell.
        Echoes y = Echoes.with("t0,3,500;t1,5,-250;f4,800;s10000;");
        for (int after = 1; after < due.length; after++) {
            y.due(due[after], "sample", 0);
        }
    }

    @Says(in = "Promise 15", text = "if the ring was all 0,")
    static void echoBeginsWithARingThatIs0() {
        Echoes x = Echoes.with("t0,1,900;t1,64,900;f16,950;");
        for (int i = 0; i < 64; i++) {
            x.samples(20000);
        }
        x.due(0, "echo", 0, 0).due(0, "echo", 0, 1).due(100, "echo", 100, 0).due(90, "echo", 100, 1).due(0, "echo", 100, 2);
        // The ring itself is as it was, with all else.
        int[] before = x.everything();
        x.call("echo", 20000, 200);
        x.unchanged(before, "echo").due(4, "count", 7);
        // Its length, its settings, and what is lost in it are those of now.
        x = Echoes.with("t0,17,900;t1,16,900;f17,950;k48;");
        x.due(0, "echo", 1000, 17).due(900, "echo", 1000, 16).due(0, "echo", 1000, 33);
        x.call("set", 0, 100);
        x.due(100, "echo", 1000, 0).due(90, "echo", 1000, 16);
        x.call("set", 1, 2);
        x.due(0, "echo", 101, 0).due(0, "echo", 101, 16).due(100, "echo", 100, 0);
        x.call("set", 1, 1);
        x.due(75, "echo", 100, 0).due(100, "echo", 20000, 0);
    }

    @Says(in = "Promise 15", text = {"- `number`: -20000 to 20000", "- `after`: 0 to 200: how many samples later",
        "INVALID_ARGUMENT if an argument is out of range."})
    static void echoTakesWhatIsInItsRanges() {
        Echoes.range("echo", 0, -20000, 20000, 0, 0);
        Echoes.range("echo", 1, 0, 200, 0, 0);
        Echoes x = Echoes.with("f50,900;t0,50,100;");
        x.due(1000, "echo", 1000, 0).due(72, "echo", 1000, 200).due(0, "echo", 1000, 199).due(Echoes.INVALID, "echo", 1000, 201);
        x.due(16000, "echo", 20000, 0).due(-16000, "echo", -20000, 0);
    }

    @Says(in = "Promise 16", text = {"`int quietAfter(int amount)`: Tells behind how many samples that are 0 all words of the ring are so quiet at most.",
        "Returns how many samples,"})
    static void quietAfterTellsWhenAllWordsAreQuiet() {
        Echoes x = new Echoes();
        x.due(0, "quietAfter", 0).samples(-1000).due(0, "quietAfter", 1000).due(64, "quietAfter", 999).due(64, "quietAfter", 0);
        x.due(0, "silence", 10).due(54, "quietAfter", 999).due(0, "silence", 53).due(1, "quietAfter", 0).samples(0).due(0, "quietAfter", 0);
        // A shorter ring is quiet sooner, at once if the loud words are stolen.
        x = Echoes.with("s1000;z15;");
        x.due(49, "quietAfter", 0).due(16, "steal", 48).due(1, "quietAfter", 0).samples(0).due(0, "quietAfter", 0);
        // Each word counts, the louder one that comes later too.
        x = Echoes.with("s10;s20;z10;");
        x.due(0, "quietAfter", 20).due(54, "quietAfter", 19).due(54, "quietAfter", 10).due(54, "quietAfter", 9).due(54, "quietAfter", 0);
        x = Echoes.with("s20;s10;z10;");
        x.due(0, "quietAfter", 20).due(53, "quietAfter", 19).due(53, "quietAfter", 10).due(54, "quietAfter", 9);
    }

    @Says(in = "Promise 16", text = "behind how many samples that are 0")
    static void quietAfterHearsTheFeedback() {
        Echoes x = Echoes.with("f11,500;s-1000;");
        // Behind 11 samples there is -500, behind 22 there is -250, and so on; each goes 64 samples later.
        x.due(64, "quietAfter", 500).due(75, "quietAfter", 499).due(75, "quietAfter", 250).due(86, "quietAfter", 249);
        int[] before = x.everything();
        x.due(64 + 9 * 11, "quietAfter", 0).unchanged(before, "quietAfter").due(1, "count", 7);
        // If it is lost, nothing comes back.
        x = Echoes.with("k48;f17,950;s1000;");
        x.due(16, "quietAfter", 0);
        // The shape of now, and the limit, hold what comes back.
        x = Echoes.with("f64,900;s10000;");
        x.due(64, "quietAfter", 9000).due(0, "set", 1, 2).due(16000, "set", 0, 8999).due(64, "quietAfter", 0);
        x.due(8999, "set", 0, 9000).due(Echoes.MISSING, "quietAfter", 0).due(128, "quietAfter", 8999).due(2, "set", 1, 0);
        x.due(9000, "set", 0, 100).due(64, "quietAfter", 100).due(128, "quietAfter", 99);
    }

    @Says(in = "Promise 16", text = {"0 to 500;", "NOT_FOUND if they are not by then."})
    static void quietAfterLooks500SamplesAhead() {
        Echoes x = Echoes.with("f64,950;s20000;");
        x.due(Echoes.MISSING, "quietAfter", 0).due(0, "quietAfter", 16000).due(64, "quietAfter", 15999);
        // Behind 7 rounds the word goes that is 16000 * 0.95^6, and 500 is less than 8 rounds.
        x.due(448, "quietAfter", 11172).due(Echoes.MISSING, "quietAfter", 11171);
        // 1024 by 500 thousandths is 1 behind 10 rounds, which are 440 samples; of these, z has let 4 through. 64 later it goes.
        x = Echoes.with("f44,500;s1024;z4;");
        x.due(500, "quietAfter", 0);
        x = Echoes.with("f44,500;s1024;z3;");
        x.due(Echoes.MISSING, "quietAfter", 0).due(501 - 44, "quietAfter", 1).samples(0).due(500, "quietAfter", 0);
        x = Echoes.with("f44,500;s1024;z5;");
        x.due(499, "quietAfter", 0);
    }

    @Says(in = "Promise 16", text = {"- `amount`: 0 to 20000", "INVALID_ARGUMENT if amount is out of range;"})
    static void quietAfterTakes0To20000() {
        Echoes.range("quietAfter", 0, 0, 20000, 0);
        // By the greatest limit words may be louder than that.
        Echoes x = Echoes.with("f1,950;s0;");
        x.call("set", 0, 30000);
        x.samples(20000, 20000).words(30000).due(64 + 7, "quietAfter", 20000).due(Echoes.INVALID, "quietAfter", 20001);
    }

    @Says(in = "Promise 17", text = {"`int loudest()`: Tells how loud what comes back can be at most: the sum, over all taps that are on and not lost,",
        "Returns the sum."})
    static void loudestAddsUpTapsThatAreOnAndNotLost() {
        Echoes x = new Echoes();
        x.due(0, "loudest").due(0, "tap", 0, 64, 900).due(14400, "loudest").due(0, "tap", 1, 1, -900).due(28800, "loudest");
        x.due(0, "tap", 2, 17, 100).due(30400, "loudest").due(0, "tap", 3, 16, 50).due(31200, "loudest");
        x.due(63, "steal", 1).due(16800, "loudest").due(16, "steal", 47).due(15200, "loudest").due(17, "giveBack", 1).due(16800, "loudest");
        x.due(64, "giveBack", 47).due(31200, "loudest").due(1, "off", 1).due(16800, "loudest");
        // The feedback is no tap, and nothing need be in the ring.
        x.due(0, "feedback", 1, 950).due(16800, "loudest").due(0, "count", 5);
    }

    @Says(in = "Promise 17", text = "of the amount of the gain in thousandths of the limit.")
    static void loudestIsOfTheLimit() {
        Echoes x = Echoes.with("t0,1,500;t1,1,-500;");
        x.call("set", 0, 999);
        // Each share is 499.5, rounded by itself.
        x.due(998, "loudest");
        x.call("set", 0, 100);
        x.due(100, "loudest");
        x.call("set", 1, 2);
        x.due(100, "loudest");
        x = Echoes.with("t0,1,900;t1,2,-900;t2,3,900;t3,4,-900;");
        x.call("set", 0, 30000);
        x.due(108000, "loudest");
        x = Echoes.with("t0,1,0;");
        x.due(0, "loudest");
    }

    @Says(in = "Promise 18", text = {"`int safeGain(int many, int amount)`: Finds the greatest gain of the feedback by which the ring would be quiet:",
        "by which a sample of 20000 into a ring that is all 0, followed by so many samples that are 0, would leave no word above an amount.",
        "Returns low in the end;"})
    static void safeGainFindsTheGreatestGain() {
        Echoes x = new Echoes();
        // The sample, held at 16000, goes behind 64 samples; behind 4 rounds of 16 the latest words are quieter than it.
        x.due(0, "safeGain", 63, 15999).due(950, "safeGain", 64, 15999).due(950, "safeGain", 63, 16000).due(950, "safeGain", 1, 20000);
        // The loudest word then is 16000 by the gain, once.
        x.due(100, "safeGain", 64, 1600).due(99, "safeGain", 64, 1599).due(0, "safeGain", 64, 0).due(1, "safeGain", 64, 16);
        // 80 samples: it is 16000 by the gain twice.
        x.due(100, "safeGain", 80, 160).due(99, "safeGain", 80, 159);
        // By the delay 64, 128 samples behind it is there once more.
        x = Echoes.with("f64,0;");
        x.due(0, "safeGain", 127, 0).due(0, "safeGain", 64, 15).due(1, "safeGain", 64, 16).due(7, "safeGain", 128, 0).due(950, "safeGain", 64, 15200);
        x.due(949, "safeGain", 64, 15199);
    }

    @Says(in = "Promise 18", text = "into a ring that is all 0")
    static void safeGainTriesARingThatIs0() {
        Echoes x = Echoes.with("t0,1,900;f16,950;");
        for (int i = 0; i < 64; i++) {
            x.samples(20000);
        }
        int[] before = x.everything();
        x.due(100, "safeGain", 64, 1600).unchanged(before, "safeGain").due(4, "count", 7).due(950, "tapOf", 4, 1);
        // The delay, the length of the ring and the settings are those of now.
        x = Echoes.with("f16,950;k48;");
        x.due(950, "safeGain", 16, 15200).due(0, "safeGain", 15, 15999).due(100, "safeGain", 16, 1600).due(7, "safeGain", 32, 0);
        x = Echoes.with("f17,950;k48;");
        x.due(0, "safeGain", 15, 0).due(950, "safeGain", 16, 0).due(950, "safeGain", 200, 0);
        x = Echoes.with("f64,0;");
        x.call("set", 0, 1000);
        x.due(950, "safeGain", 1, 1000).due(0, "safeGain", 1, 999).due(100, "safeGain", 64, 100);
        x.call("set", 1, 2);
        x.due(950, "safeGain", 1, 0);
        x.call("set", 0, 20000);
        x.due(0, "safeGain", 63, 19999).due(950, "safeGain", 63, 20000).due(100, "safeGain", 64, 2000);
        x.call("set", 1, 1);
        x.due(0, "safeGain", 63, 14999).due(950, "safeGain", 63, 15000).due(100, "safeGain", 64, 1500);
    }

    @Says(in = "Promise 18", text = {"(It is found by halving: of the gains from low = 0 to high = 950, as long as low is less than high,",
        "with middle = (low + high + 1) / 2, rounded down: if it would be quiet by middle, low becomes middle, otherwise high becomes middle less 1.)"})
    static void safeGainFindsEachGainByHalving() {
        // By the delay 64 the loudest word behind 64 samples is 20000 by the gain: each gain is the greatest one for an amount.
        for (int from = 0; from <= 950; from += 190) {
            Echoes x = Echoes.with("f64,0;");
            x.call("set", 0, 20000);
            for (int gain = from; gain < from + 190 && gain <= 950; gain++) {
                x.due(gain, "safeGain", 64, 20 * gain);
                if (gain > 0) {
                    x.due(gain - 1, "safeGain", 64, 20 * gain - 1);
                }
            }
        }
    }

    @Says(in = "Promise 18", text = "if it would be quiet by middle, low becomes middle, otherwise high becomes middle less 1")
    static void safeGainIsWhatHalvingFinds() {
        for (int delay = 1; delay <= 64; delay += 7) {
            for (int limit = 4000; limit <= 24000; limit += 5000) {
                Echoes x = new Echoes();
                x.call("feedback", delay, 0);
                x.call("set", 0, limit);
                x.call("set", 1, delay % 3);
                for (int many = 1; many <= 200; many += 19) {
                    for (int amount = 0; amount <= 20000; amount = 3 * amount + 50) {
                        x.due(halved(delay, limit, delay % 3, many, amount), "safeGain", many, amount);
                    }
                }
            }
        }
    }

    private static int halved(int delay, int limit, int shape, int many, int amount) {
        int low = 0;
        int high = 950;
        while (low < high) {
            int middle = (low + high + 1) / 2;
            int[] words = new int[many + 1];
            boolean quiet = true;
            for (int i = 0; i <= many; i++) {
                int number = i == 0 ? 20000 : i < delay ? 0 : middle * words[i - delay] / 1000;
                int half = limit / 2;
                if (shape == 1 && number > half) {
                    number = Math.min(half + (number - half) / 2, limit);
                } else if (shape != 1 && number > limit) {
                    number = shape == 0 ? limit : 0;
                }
                words[i] = number;
                quiet = quiet && (i <= many - 64 || number <= amount);
            }
            if (quiet) {
                low = middle;
            } else {
                high = middle - 1;
            }
        }
        return low;
    }

    @Says(in = "Promise 18", text = {"- `many`: 1 to 200", "- `amount`: 0 to 20000", "INVALID_ARGUMENT if an argument is out of range."})
    static void safeGainTakesWhatIsInItsRanges() {
        Echoes.range("safeGain", 0, 1, 200, 1, 0);
        Echoes.range("safeGain", 1, 0, 20000, 1, 0);
        // 200 samples behind, by the delay 50, the latest word is 16000 by the gain four times.
        Echoes x = Echoes.with("f50,0;k14;");
        x.due(106, "safeGain", 200, 1).due(500, "safeGain", 200, 1000).due(950, "safeGain", 200, 13032).due(949, "safeGain", 200, 13031);
    }

    @Says(in = "Promise 19", text = {"`int count(int what)`: Returns a number.", "- `what`: 0: the length of the ring; 1: words of the program;",
        "Returns the number;"})
    static void countTellsOfTheRing() {
        Echoes x = new Echoes();
        x.due(64, "count", 0).due(0, "count", 1).due(16, "steal", 48).due(16, "count", 0).due(48, "count", 1);
        x.due(18, "giveBack", 2).due(18, "count", 0).due(46, "count", 1).due(1, "undo").due(16, "count", 0).due(48, "count", 1);
    }

    @Says(in = "Promise 19", text = "2: taps that are on; 3: taps that are on and lost;")
    static void countTellsOfTaps() {
        Echoes x = Echoes.with("t0,16,0;t1,17,0;t3,64,0;");
        x.due(3, "count", 2).due(0, "count", 3).due(63, "steal", 1).due(3, "count", 2).due(1, "count", 3);
        x.due(16, "steal", 47).due(3, "count", 2).due(2, "count", 3).due(64, "off", 3).due(2, "count", 2).due(1, "count", 3);
        x.due(1, "tap", 2, 64, 900).due(3, "count", 2).due(2, "count", 3);
        // The feedback is no tap.
        x.due(0, "feedback", 64, 900).due(3, "count", 2).due(2, "count", 3);
    }

    @Says(in = "Promise 19", text = "4: the sum of the amounts of all words of the ring; 5: words that are not 0;")
    static void countTellsOfWords() {
        Echoes x = Echoes.with("s-100;s0;s30;");
        x.due(130, "count", 4).due(2, "count", 5).samples(100).due(230, "count", 4).due(3, "count", 5);
        x = Echoes.with("s1;s-1;s0;s2;");
        x.due(4, "count", 4).due(3, "count", 5);
        // Words of the program do not count.
        x = Echoes.with("s-100;s3;z15;");
        x.due(103, "count", 4).due(2, "count", 5).due(16, "steal", 48).due(3, "count", 4).due(1, "count", 5).samples(0);
        x.due(0, "count", 4).due(0, "count", 5).due(64, "giveBack", 48).due(0, "count", 4).due(0, "count", 5);
        x = Echoes.with("f1,950;");
        x.call("set", 0, 30000);
        for (int i = 0; i < 65; i++) {
            x.samples(-20000);
        }
        x.due(64 * 30000, "count", 4).due(64, "count", 5);
    }

    @Says(in = "Promise 19", text = "6: words stolen so far;")
    static void countTellsWhatWasStolenSoFar() {
        Echoes x = new Echoes();
        x.due(0, "count", 6).due(16, "steal", 48).due(48, "count", 6).due(64, "giveBack", 48).due(48, "count", 6);
        x.due(62, "steal", 2).due(50, "count", 6).due(Echoes.LIMIT, "steal", 48).due(50, "count", 6).due(2, "undo").due(48, "count", 6);
        x.write("k3;g3;k4;").due(3, "play").due(55, "count", 6).due(2, "undo").due(48, "count", 6);
    }

    @Says(in = "Promise 19", text = "7: states in the history; 8: the length of the text;")
    static void countTellsOfTheHistoryAndTheText() {
        Echoes x = new Echoes();
        x.due(0, "count", 7).due(0, "count", 8).samples(1).due(1, "count", 7).samples(1, 1, 1).due(4, "count", 7).samples(1).due(4, "count", 7);
        x.due(3, "undo").due(3, "count", 7);
        for (int length = 1; length <= 60; length++) {
            x.due(length, "type", ' ').due(length, "count", 8);
        }
        x.due(Echoes.LIMIT, "type", ' ').due(60, "count", 8).due(60, "clearText").due(0, "count", 8);
    }

    @Says(in = "Promise 19", text = "20 and 21: the settings 0 and 1")
    static void countTellsTheSettings() {
        Echoes x = new Echoes();
        x.due(16000, "count", 20).due(0, "count", 21);
        x.due(16000, "set", 0, 30000).due(30000, "count", 20).due(0, "count", 21).due(0, "set", 1, 2).due(30000, "count", 20).due(2, "count", 21);
        x.due(1, "undo").due(0, "count", 21).due(0, "undo").due(16000, "count", 20);
    }

    @Says(in = "Promise 19", text = "INVALID_ARGUMENT if what is out of range.")
    static void countKnowsNoOtherNumbers() {
        for (int what = -30; what <= 50; what++) {
            boolean known = what >= 0 && what <= 8 || what == 20 || what == 21;
            Echoes x = new Echoes();
            if ((x.call("count", what) == Echoes.INVALID) == known) {
                Echoes.tell("count(" + what + ") is " + (known ? "refused" : "answered"));
            }
        }
        new Echoes().due(Echoes.INVALID, "count", Integer.MIN_VALUE).due(Echoes.INVALID, "count", Integer.MAX_VALUE);
    }

    @Says(in = "Promise 20", text = "`int undo()`: Restores the latest state of the history, which is removed from it.")
    static void undoRestoresTheLatestState() {
        Echoes x = new Echoes();
        x.samples(1, 2).due(1, "undo").words(1, 0).outputs(1).meters(1, 1, 0, 0).due(1, "count", 7);
        x.due(0, "undo").words(0).outputs().meters(0, 0, 0, 0).due(0, "count", 7).due(Echoes.MISSING, "meter", 4);
        // What an undo takes back does not come again by another one.
        x.samples(5).due(0, "undo").due(Echoes.IMPOSSIBLE, "undo").words(0);
        // The outputs that the later ones drove out are kept again.
        x = new Echoes();
        for (int i = 1; i <= 14; i++) {
            x.samples(i);
        }
        x.due(3, "undo").outputs(13, 12, 11, 10, 9, 8, 7, 6, 5, 4, 3, 2).due(0, "silence", 200).due(3, "undo");
        x.outputs(13, 12, 11, 10, 9, 8, 7, 6, 5, 4, 3, 2).due(2, "undo").outputs(12, 11, 10, 9, 8, 7, 6, 5, 4, 3, 2, 1);
        // Words that were stolen come back with their numbers.
        x = new Echoes();
        for (int i = 1; i <= 64; i++) {
            x.samples(i);
        }
        x.due(16, "steal", 48).samples(-9).due(64, "giveBack", 48).due(3, "undo").due(16, "count", 0).words(-9, 64);
        x.due(2, "undo").due(1, "undo").due(64, "count", 0);
        for (int word = 0; word < 64; word++) {
            x.due(64 - word, "wordOf", word);
        }
    }

    @Says(in = "Promise 20", text = "Returns the number of states that are left in the history;")
    static void undoReturnsTheStatesThatAreLeft() {
        Echoes x = new Echoes();
        x.samples(1, 2, 3, 4, 5, 6, 7).due(3, "undo").due(2, "undo").samples(8).due(2, "undo").due(1, "undo").due(0, "undo");
        x.samples(1).due(0, "undo");
    }

    @Says(in = "Promise 20", text = "NOT_POSSIBLE if it is empty.")
    static void undoIsNotPossibleIfTheHistoryIsEmpty() {
        Echoes x = new Echoes();
        x.due(Echoes.IMPOSSIBLE, "undo").samples(1).due(0, "undo").due(Echoes.IMPOSSIBLE, "undo").samples(1, 2, 3, 4, 5);
        x.due(3, "undo").due(2, "undo").due(1, "undo").due(0, "undo").due(Echoes.IMPOSSIBLE, "undo").words(1).due(1, "meter", 0);
        // Calls that change nothing leave it empty.
        x = new Echoes();
        x.due(1, "type", 's').due(Echoes.INVALID, "sample", 20001).due(0, "loudest").due(Echoes.IMPOSSIBLE, "undo").due(1, "count", 8);
    }
}
