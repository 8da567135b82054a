/** What the document says under 'Samples', 'Settings' and 'Meters'. */
final class SampleSentences {
    private static Echoes shaped(int shape, int limit) {
        Echoes x = new Echoes();
        x.call("set", 0, limit);
        x.call("set", 1, shape);
        return x;
    }

    /** Samples alone, so that outputs and words are shaped in the same way: each row a sample and what it becomes. */
    private static void becomes(int shape, int limit, int[][] rows) {
        Echoes x = shaped(shape, limit);
        int held = 0;
        for (int[] row : rows) {
            x.due(row[1], "sample", row[0]).words(row[1]);
            held += row[0] == row[1] ? 0 : 1;
            x.due(held, "meter", 2).due(held, "meter", 3);
            x.due(-row[1], "sample", -row[0]).words(-row[1]);
            held += row[0] == row[1] ? 0 : 1;
            x.due(held, "meter", 2).due(held, "meter", 3);
        }
    }

    @Says(in = "Samples", text = "A sample is a number from -20000 to 20000.")
    static void aSampleIsFromMinus20000To20000() {
        Echoes x = shaped(0, 30000);
        x.due(20000, "sample", 20000).due(-20000, "sample", -20000).due(0, "sample", 0);
        x.due(Echoes.INVALID, "sample", 20001).due(Echoes.INVALID, "sample", -20001).words(0, -20000, 20000);
        x.fault("s20000;s-20000;s20001;", 15, 2, Echoes.INVALID).fault("s-20001;", 0, 2, Echoes.INVALID);
        x.due(20000, "echo", 20000, 0).due(-20000, "echo", -20000, 0);
        x.due(Echoes.INVALID, "echo", 20001, 0).due(Echoes.INVALID, "echo", -20001, 0);
    }

    @Says(in = "Samples", text = "Its output is the sample plus, for each tap, the gain in thousandths of what it reads (each rounded by itself),")
    static void eachShareIsRoundedByItself() {
        Echoes x = Echoes.with("t0,1,500;t1,1,500;t2,1,500;t3,1,500;s1;");
        x.due(0, "sample", 0);
        x = Echoes.with("t0,1,500;t1,1,500;s7;");
        x.due(6, "sample", 0);
        x = Echoes.with("t0,1,500;t1,1,-499;s999;");
        x.due(499 - 498, "sample", 0);
        x = Echoes.with("t0,1,500;t1,1,500;s-7;");
        x.due(-6, "sample", 0);
    }

    @Says(in = "Samples", text = "the sample plus, for each tap")
    static void eachTapThatIsOnCounts() {
        Echoes x = Echoes.with("t0,1,100;t1,2,200;t2,3,300;t3,4,400;s1000;s2000;s3000;s4000;");
        x.due(5 + 400 + 600 + 600 + 400, "sample", 5);
        x = Echoes.with("t3,1,100;s1000;");
        x.due(100, "sample", 0);
        x = Echoes.with("t0,1,100;t1,1,200;s1000;");
        x.due(1, "off", 0).due(200, "sample", 0);
    }

    @Says(in = "Samples", text = "all added up, and then shaped.")
    static void onlyTheSumIsShaped() {
        // 16000 * 0.9 * 2 is far above the limit until the other two taps take it away again.
        Echoes x = Echoes.with("t0,1,900;t1,1,900;t2,1,-900;t3,1,-900;s16000;");
        x.due(16000, "sample", 16000).meters(2, 16000, 0, 0);
        x = Echoes.with("t0,1,900;t1,1,900;s-16000;");
        x.due(-8800, "sample", 20000).meters(2, 16000, 0, 1);
        // The greatest sum that there can be: 20000 and four times 27000.
        x = Echoes.with("t0,1,900;t1,2,900;t2,3,900;t3,4,900;f1,950;");
        x.call("set", 0, 30000);
        x.samples(20000, 20000, 20000, 20000).words(30000, 30000, 30000, 20000).samples(20000);
        x.due(30000, "sample", 20000).due(30000, "outputOf", 0);
        x = Echoes.with("t0,1,-900;t1,2,-900;t2,3,-900;t3,4,-900;f1,950;");
        x.call("set", 0, 30000);
        x.samples(20000, 20000, 20000, 20000, 20000).due(-30000, "sample", -20000);
    }

    @Says(in = "Samples", text = "What is written into the ring is the sample plus the gain of the feedback in thousandths of what that reads, shaped.")
    static void theFeedbackIsWrittenIntoTheRing() {
        Echoes x = Echoes.with("t0,1,900;f2,500;s1000;s10;");
        x.due(9, "sample", 0).words(500, 10, 1000);
        x.due(450 - 3, "sample", -3).words(2, 500, 10, 1000);
        x = Echoes.with("f1,950;s16000;s16000;");
        x.words(16000, 16000).meters(2, 16000, 0, 1).outputs(16000, 16000);
        x = Echoes.with("f1,950;s-16000;s-801;");
        x.words(-16000, -16000).meters(2, 16000, 0, 1).outputs(-801, -16000);
        x = Echoes.with("f1,950;s-16000;s-800;");
        x.words(-16000, -16000).meters(2, 16000, 0, 0);
    }

    @Says(in = "Samples", text = {"Shapes (setting 1), with the limit (setting 0):",
        "0: a number above the limit is the limit, one below the limit with a minus is that."})
    static void shape0HoldsAtTheLimit() {
        becomes(0, 16000, new int[][] {{0, 0}, {15999, 15999}, {16000, 16000}, {16001, 16000}, {20000, 16000}});
        becomes(0, 100, new int[][] {{99, 99}, {100, 100}, {101, 100}, {20000, 100}});
        becomes(0, 19999, new int[][] {{19998, 19998}, {19999, 19999}, {20000, 19999}});
        becomes(0, 30000, new int[][] {{20000, 20000}});
    }

    @Says(in = "Samples", text = {"1: of a number whose amount (without its sign) is above half of the limit (rounded down),",
        "the amount is this half plus half (rounded down) of what it is above it,", "the sign stays."})
    static void shape1BendsAboveHalfOfTheLimit() {
        becomes(1, 1000, new int[][] {{0, 0}, {1, 1}, {499, 499}, {500, 500}, {501, 500}, {502, 501}, {503, 501}, {504, 502}, {1000, 750}});
        // Half of an odd limit is rounded down.
        becomes(1, 1001, new int[][] {{499, 499}, {500, 500}, {501, 500}, {502, 501}, {503, 501}, {1001, 750}, {1002, 751}});
        becomes(1, 101, new int[][] {{49, 49}, {50, 50}, {51, 50}, {52, 51}, {101, 75}});
    }

    @Says(in = "Samples", text = "but the limit at most;")
    static void shape1HoldsAtTheLimit() {
        becomes(1, 1000, new int[][] {{1498, 999}, {1499, 999}, {1500, 1000}, {1501, 1000}, {1502, 1000}, {20000, 1000}});
        becomes(1, 1001, new int[][] {{1499, 999}, {1500, 1000}, {1501, 1000}, {1502, 1001}, {1503, 1001}, {1504, 1001}, {20000, 1001}});
        becomes(1, 100, new int[][] {{148, 99}, {149, 99}, {150, 100}, {151, 100}, {152, 100}});
        becomes(1, 30000, new int[][] {{15000, 15000}, {15001, 15000}, {20000, 17500}});
    }

    @Says(in = "Samples", text = "2: a number whose amount is above the limit is 0.")
    static void shape2MakesWhatIsTooLoud0() {
        becomes(2, 16000, new int[][] {{15999, 15999}, {16000, 16000}, {16001, 0}, {20000, 0}});
        becomes(2, 100, new int[][] {{0, 0}, {50, 50}, {51, 51}, {99, 99}, {100, 100}, {101, 0}, {20000, 0}});
        becomes(2, 30000, new int[][] {{20000, 20000}});
    }

    @Says(in = "Samples", text = "A number that is another one by its shape is counted as held.")
    static void onlyWhatBecomesAnotherNumberIsHeld() {
        Echoes x = shaped(0, 1000);
        x.samples(1000, -1000, 0).meters(3, 1000, 0, 0).samples(1001).meters(4, 1000, 1, 1).samples(-1001).meters(5, 1000, 2, 2);
        x = shaped(1, 1000);
        x.samples(500, -500, 0).meters(3, 500, 0, 0).samples(501).meters(4, 500, 1, 1).samples(-501).meters(5, 500, 2, 2);
        x = shaped(2, 1000);
        x.samples(1000, -1000, 0).meters(3, 1000, 0, 0).samples(1001).meters(4, 1000, 1, 1).samples(-1001).meters(5, 1000, 2, 2);
    }

    @Says(in = "Samples", text = "is counted as held")
    static void outputsAndNumbersForTheRingAreHeldEachForThemselves() {
        Echoes x = Echoes.with("t0,1,900;s16000;s1601;");
        x.meters(2, 16000, 1, 0);
        x = Echoes.with("t0,1,900;s16000;s1600;");
        x.meters(2, 16000, 0, 0);
        x = Echoes.with("f1,900;s16000;s1601;");
        x.meters(2, 16000, 0, 1);
        x = Echoes.with("f1,900;s16000;s1600;");
        x.meters(2, 16000, 0, 0);
        x = Echoes.with("t0,1,-900;s16000;s16001;");
        x.meters(2, 16000, 0, 1);
    }

    @Says(in = "Settings", text = {"The settings are (in parentheses: range; first value):", "0 limit (100 to 30000; 16000),"})
    static void theLimitIsFrom100To30000() {
        Echoes x = new Echoes();
        x.due(16000, "count", 20).due(16000, "sample", 16001);
        x.due(Echoes.INVALID, "set", 0, 99).due(Echoes.INVALID, "set", 0, 30001).due(16000, "count", 20);
        x.due(16000, "set", 0, 100).due(100, "count", 20).due(100, "sample", 101);
        x.due(100, "set", 0, 30000).due(30000, "count", 20).due(20000, "sample", 20000);
    }

    @Says(in = "Settings", text = "1 (0 to 2; 0).")
    static void theShapeIsFrom0To2() {
        Echoes x = new Echoes();
        x.due(0, "count", 21).due(16000, "sample", 16002);
        x.due(Echoes.INVALID, "set", 1, -1).due(Echoes.INVALID, "set", 1, 3).due(0, "count", 21);
        x.due(0, "set", 1, 2).due(2, "count", 21).due(0, "sample", 16002);
        x.due(2, "set", 1, 1).due(1, "count", 21).due(12001, "sample", 16002);
        x.due(1, "set", 1, 0).due(0, "count", 21).due(16000, "sample", 16002);
    }

    @Says(in = "Meters", text = {"The meters tell of all samples since they were reset:", "how many there were,"})
    static void allSamplesSinceTheResetCount() {
        Echoes x = new Echoes();
        x.due(0, "meter", 0).samples(1).due(1, "meter", 0);
        x.call("silence", 200);
        x.due(201, "meter", 0);
        x.write("s2;z3;");
        x.call("play");
        x.due(205, "meter", 0).due(205, "reset").due(0, "meter", 0).samples(4).due(1, "meter", 0);
        // What would be is no sample.
        x.call("echo", 1000, 200);
        x.call("quietAfter", 0);
        x.call("safeGain", 200, 0);
        x.due(1, "meter", 0);
    }

    @Says(in = "Meters", text = "the greatest amount of an output,")
    static void theGreatestAmountIsKept() {
        Echoes x = new Echoes();
        x.due(0, "meter", 1).samples(-5).due(5, "meter", 1).samples(4).due(5, "meter", 1).samples(6, 0).due(6, "meter", 1);
        x.samples(-20000).due(16000, "meter", 1).due(5, "reset").due(0, "meter", 1).samples(-1).due(1, "meter", 1);
        // Of the output, not of the sample or of the word.
        x = Echoes.with("t0,1,-500;f1,900;s100;s50;");
        x.due(100, "meter", 1).words(140);
    }

    @Says(in = "Meters", text = "the sum of the amounts of outputs,")
    static void theSumIsOfAmounts() {
        Echoes x = new Echoes();
        x.samples(-5, 5).mean(5f).samples(-20000).mean(16010f / 3f).due(3, "reset").samples(-7).mean(7f);
    }

    @Says(in = "Meters", text = "the sum of the amounts of outputs")
    static void theSumMayBeGreaterThan31Bits() {
        Echoes x = new Echoes();
        x.call("set", 0, 30000);
        x.call("feedback", 64, 950);
        for (int tap = 0; tap < 4; tap++) {
            x.call("tap", tap, 10 * tap + 1, 900);
        }
        x.write("s20000;s20000;s20000;s20000;z200;z200;z200;z200;z200;z200;");
        int plays = 430;
        for (int i = 0; i < plays; i++) {
            x.due(10, "play");
        }
        int samples = plays * 1204;
        x.due(samples, "meter", 0).mean((float) sumOfLoudPlays(samples) / (float) samples);
    }

    /** The sum that samples of 20000 make, four of them among 1204, by the settings of the test above. */
    private static long sumOfLoudPlays(int samples) {
        int[] words = new int[64 + samples];
        long sum = 0;
        for (int i = 64; i < words.length; i++) {
            int number = (i - 64) % 1204 < 4 ? 20000 : 0;
            words[i] = Math.min(number + 950 * words[i - 64] / 1000, 30000);
            int output = number;
            for (int tap = 0; tap < 4; tap++) {
                output += 900 * words[i - 10 * tap - 1] / 1000;
            }
            sum += Math.min(output, 30000);
        }
        if (sum <= Integer.MAX_VALUE) {
            Echoes.tell("the sum is only " + sum);
        }
        return sum;
    }

    @Says(in = "Meters", text = "and how many outputs and numbers for the ring were held.")
    static void heldOutputsAndNumbersCount() {
        Echoes x = Echoes.with("t0,1,900;s20000;s1601;s16001;");
        x.meters(3, 16000, 3, 2).due(3, "reset").meters(0, 0, 0, 0);
        x.samples(2).meters(1, 14402, 0, 0);
    }

    @Says(in = "Meters", text = "The latest 12 outputs are kept")
    static void theLatest12OutputsAreKept() {
        Echoes x = new Echoes();
        x.outputs();
        for (int i = 1; i <= 11; i++) {
            x.samples(i);
        }
        x.outputs(11, 10, 9, 8, 7, 6, 5, 4, 3, 2, 1);
        x.samples(12).outputs(12, 11, 10, 9, 8, 7, 6, 5, 4, 3, 2, 1);
        x.samples(-13).outputs(-13, 12, 11, 10, 9, 8, 7, 6, 5, 4, 3, 2);
        for (int i = 14; i <= 25; i++) {
            x.samples(i);
        }
        x.outputs(25, 24, 23, 22, 21, 20, 19, 18, 17, 16, 15, 14);
        // Outputs, not words or samples.
        x = Echoes.with("t0,1,500;f1,300;s20000;s100;");
        x.outputs(8100, 16000).words(4900, 16000);
    }

    @Says(in = "Meters", text = "(by a reset, too).")
    static void outputsAreKeptByAReset() {
        Echoes x = new Echoes();
        x.samples(1, 2, 3, 4, 5, 6, 7, 8, 9, 10, 11, 12, 13).due(13, "reset").outputs(13, 12, 11, 10, 9, 8, 7, 6, 5, 4, 3, 2);
        x.samples(14).outputs(14, 13, 12, 11, 10, 9, 8, 7, 6, 5, 4, 3);
        x = Echoes.with("s1;");
        x.due(1, "reset").outputs(1).due(0, "reset").outputs(1);
    }
}
