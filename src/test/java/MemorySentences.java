/** What the document says under 'Terms' and 'Memory': the words, the ring, the taps and the feedback. */
final class MemorySentences {
    private static final String OFTEN_WRAPPED = "z200;z200;z200;";

    @Says(in = "Terms", text = {"All numbers are whole numbers, where no float is told.",
        "Thousandths of a number are the number times them, divided by 1000, rounded towards 0."})
    static void thousandthsOfATapAreRoundedTowards0() {
        int[][] rows = {{1, 999, 0}, {1, 1000, 1}, {1, 1999, 1}, {1, 2000, 2}, {-1, 999, 0}, {-1, 1000, -1}, {-1, 1999, -1},
            {1, -999, 0}, {1, -1000, -1}, {1, -1999, -1}, {-1, -999, 0}, {-1, -1000, 1}, {-1, -1999, 1}, {900, 1, 0},
            {900, -1, 0}, {-900, 1, 0}, {900, 16000, 14400}, {-900, 16000, -14400}, {500, 1, 0}, {500, 3, 1}, {500, -3, -1}};
        for (int[] row : rows) {
            Echoes x = new Echoes();
            x.call("tap", 0, 1, row[0]);
            x.samples(row[1]);
            x.due(row[2], "tapOf", 0, 4).due(row[2], "sample", 0);
        }
    }

    @Says(in = "Terms", text = "rounded towards 0")
    static void thousandthsOfTheFeedbackAreRoundedTowards0() {
        int[][] rows = {{1, 999, 0}, {1, 1000, 1}, {1, -999, 0}, {1, -1000, -1}, {950, 1, 0}, {950, -1, 0}, {950, 2, 1},
            {950, -2, -1}, {333, 1000, 333}, {333, 1001, 333}, {333, -1001, -333}, {950, 16000, 15200}};
        for (int[] row : rows) {
            Echoes x = new Echoes();
            x.call("feedback", 1, row[0]);
            x.samples(row[1]);
            x.due(row[2], "tapOf", 4, 4).samples(0).words(row[2], row[1]);
        }
    }

    @Says(in = "Terms", text = "divided by 1000, rounded towards 0")
    static void thousandthsOfTheLimitAreRoundedTowards0() {
        int[][] rows = {{100, 9, 0}, {100, 10, 1}, {100, 19, 1}, {999, 1, 0}, {1000, 1, 1}, {30000, 900, 27000}};
        for (int[] row : rows) {
            Echoes x = new Echoes();
            x.call("set", 0, row[0]);
            x.call("tap", 0, 1, row[1]);
            x.due(row[2], "loudest");
            x.call("tap", 0, 1, -row[1]);
            x.due(row[2], "loudest");
        }
    }

    @Says(in = "Memory", text = "There are 64 words.")
    static void thereAre64Words() {
        Echoes x = Echoes.with("s7;z63;");
        x.due(7, "wordOf", 63).due(1, "count", 5).due(Echoes.INVALID, "wordOf", 64);
        x.call("silence", 1);
        x.due(0, "count", 5);
    }

    @Says(in = "Memory", text = "The program has the last ones of them")
    static void theProgramHasTheLastWords() {
        Echoes x = Echoes.with("k1;");
        x.due(0, "wordOf", 62).due(Echoes.MISSING, "wordOf", 63);
        x.call("steal", 47);
        x.due(0, "wordOf", 0).due(0, "wordOf", 15).due(Echoes.MISSING, "wordOf", 16).due(Echoes.MISSING, "wordOf", 63);
    }

    @Says(in = "Memory", text = "(0 at first, 48 at most)")
    static void theProgramHasFrom0To48Words() {
        Echoes x = new Echoes();
        x.due(0, "count", 1).due(16, "steal", 48).due(48, "count", 1);
        x.due(Echoes.LIMIT, "steal", 1).due(48, "count", 1).due(64, "giveBack", 48).due(0, "count", 1);
    }

    @Says(in = "Memory", text = "the ring has all others; its length is how many these are.")
    static void theRingHasAllOtherWords() {
        Echoes x = new Echoes();
        x.due(64, "count", 0);
        for (int stolen = 1; stolen <= 48; stolen++) {
            x.due(64 - stolen, "steal", 1).due(64 - stolen, "count", 0).due(stolen, "count", 1);
        }
        for (int stolen = 47; stolen >= 0; stolen--) {
            x.due(64 - stolen, "giveBack", 1).due(64 - stolen, "count", 0).due(stolen, "count", 1);
        }
    }

    @Says(in = "Memory", text = {"The words of the ring are the latest numbers that were written into it, the latest one first:",
        "the word number d - 1 is what was written d samples ago."})
    static void theLatestWordsComeFirst() {
        // Ahead of, at and behind the places where 64 words are full once, twice and thrice.
        for (int many : new int[] {1, 2, 63, 64, 65, 127, 128, 129, 191, 192, 193}) {
            Echoes x = new Echoes();
            for (int i = 1; i <= many; i++) {
                x.samples(i);
            }
            for (int d = 1; d <= 64; d++) {
                x.due(Math.max(many - d + 1, 0), "wordOf", d - 1);
            }
        }
    }

    @Says(in = "Memory", text = "All are 0 at first.")
    static void allWordsAre0AtFirst() {
        Echoes x = new Echoes();
        x.words(new int[64]).due(0, "count", 4).due(0, "count", 5);
    }

    @Says(in = "Memory", text = {"When a sample goes into the ring, its number is written: it comes first, all others are one place later,"})
    static void aSampleComesFirst() {
        Echoes x = new Echoes();
        x.samples(5).words(5, 0, 0, 0).samples(-6).words(-6, 5, 0, 0).samples(0).words(0, -6, 5, 0).samples(7).words(7, 0, -6, 5);
    }

    @Says(in = "Memory", text = "and the last one is gone.")
    static void theLastWordIsGoneWithASample() {
        Echoes x = Echoes.with("s7;z63;");
        x.due(7, "wordOf", 63).samples(0).due(0, "wordOf", 63).due(0, "count", 4);
        x = Echoes.with("k48;s7;z15;");
        x.due(7, "wordOf", 15).samples(0).due(0, "wordOf", 15).due(0, "count", 4);
        // It is gone for good, though it lies where words are given back.
        x.due(64, "giveBack", 48).due(0, "count", 4).due(0, "count", 5).due(0, "wordOf", 16);
    }

    @Says(in = "Memory", text = "When the program steals words, the last words of the ring are gone;")
    static void stolenWordsAreTheLastOnes() {
        Echoes x = new Echoes();
        for (int i = 1; i <= 64; i++) {
            x.samples(i);
        }
        x.due(1, "wordOf", 63).due(63, "steal", 1).due(2, "wordOf", 62).due(Echoes.MISSING, "wordOf", 63).due(63, "count", 5);
        x.due(17, "steal", 46).due(48, "wordOf", 16).due(Echoes.MISSING, "wordOf", 17).due(17, "count", 5);
        x.due(16, "steal", 1).due(49, "wordOf", 15).due(Echoes.MISSING, "wordOf", 16).due(64, "wordOf", 0);
    }

    @Says(in = "Memory", text = "when it gives words back, the ring becomes longer by words that are 0.")
    static void wordsThatAreGivenBackAre0() {
        Echoes x = new Echoes();
        for (int i = 1; i <= 64; i++) {
            x.samples(i);
        }
        x.due(63, "steal", 1).due(64, "giveBack", 1).due(0, "wordOf", 63).due(2, "wordOf", 62);
        x.due(16, "steal", 48).due(17, "giveBack", 1).due(49, "wordOf", 15).due(0, "wordOf", 16).due(Echoes.MISSING, "wordOf", 17);
        x.due(64, "giveBack", 47).due(0, "wordOf", 17).due(0, "wordOf", 63).due(16, "count", 5);
    }

    @Says(in = "Memory", text = "the ring becomes longer by words that are 0")
    static void wordsThatAreGivenBackAre0WhereverTheRingBegins() {
        for (int begin = 0; begin < 64; begin++) {
            Echoes x = new Echoes();
            for (int i = 0; i < 64 + begin; i++) {
                x.samples(900 + i);
            }
            x.due(16, "steal", 48).due(64, "giveBack", 48).due(16, "count", 5).due(0, "wordOf", 16).due(0, "wordOf", 63);
            x.due(963 + begin - 15, "wordOf", 15);
        }
    }

    @Says(in = "Memory", text = "There are 4 taps, 0 to 3, each on or off (off at first);")
    static void thereAre4TapsThatAreOffAtFirst() {
        Echoes x = new Echoes();
        x.due(0, "count", 2);
        for (int tap = 0; tap < 4; tap++) {
            x.due(Echoes.MISSING, "tapOf", tap, 0).due(Echoes.IMPOSSIBLE, "off", tap);
        }
        for (int tap = 0; tap < 4; tap++) {
            x.due(0, "tap", tap, 1, 1).due(tap + 1, "count", 2).due(1, "tapOf", tap, 0);
        }
        x.due(Echoes.INVALID, "tap", 4, 1, 1).due(Echoes.INVALID, "tap", -1, 1, 1).due(4, "count", 2);
        for (int tap = 0; tap < 4; tap++) {
            x.due(1, "off", tap).due(3 - tap, "count", 2).due(Echoes.MISSING, "tapOf", tap, 0);
        }
    }

    @Says(in = "Memory", text = "a tap that is on has a delay (1 to 64) and a gain (-900 to 900, thousandths).")
    static void aTapHasADelayAndAGain() {
        Echoes x = new Echoes();
        int[][] edges = {{1, -900}, {1, 900}, {64, -900}, {64, 900}, {33, 0}};
        for (int[] edge : edges) {
            x.due(0, "tap", 2, edge[0], edge[1]).due(edge[0], "tapOf", 2, 0).due(edge[1], "tapOf", 2, 1);
        }
        int[][] outside = {{0, 0}, {65, 0}, {1, -901}, {1, 901}};
        for (int[] edge : outside) {
            x.due(Echoes.INVALID, "tap", 2, edge[0], edge[1]).due(33, "tapOf", 2, 0).due(0, "tapOf", 2, 1);
        }
        // 900 thousandths: not percent, nor the whole.
        x = Echoes.with("t0,1,900;s1000;");
        x.due(900, "sample", 0);
    }

    @Says(in = "Memory", text = "The feedback has a delay (1 to 64; 16 at first) and a gain (0 to 950; 0 at first).")
    static void theFeedbackHasADelayAndAGain() {
        Echoes x = new Echoes();
        x.due(16, "tapOf", 4, 0).due(0, "tapOf", 4, 1);
        x.due(0, "feedback", 1, 950).due(1, "tapOf", 4, 0).due(950, "tapOf", 4, 1);
        x.due(950, "feedback", 64, 0).due(64, "tapOf", 4, 0).due(0, "tapOf", 4, 1);
        int[][] outside = {{0, 1}, {65, 1}, {1, -1}, {1, 951}};
        for (int[] edge : outside) {
            x.due(Echoes.INVALID, "feedback", edge[0], edge[1]).due(64, "tapOf", 4, 0).due(0, "tapOf", 4, 1);
        }
        // With the gain of the beginning nothing comes back.
        x = Echoes.with("s1000;z15;");
        x.due(1000, "tapOf", 4, 3).due(0, "tapOf", 4, 4).samples(0).words(0);
    }

    @Says(in = "Memory", text = "A tap, or the feedback, whose delay is greater than the length of the ring, is lost as long as that is so: it reads 0.")
    static void aTapIsLostBehindTheLengthOfTheRing() {
        Echoes x = Echoes.with("t0,64,900;t1,63,900;s1000;z63;");
        x.due(0, "tapOf", 0, 2).due(1000, "tapOf", 0, 3).due(63, "steal", 1);
        x.due(1, "tapOf", 0, 2).due(0, "tapOf", 0, 3).due(0, "tapOf", 0, 4).due(0, "tapOf", 1, 2).due(1, "count", 3);
        x.due(16, "steal", 47).due(1, "tapOf", 1, 2).due(2, "count", 3);
        x.due(0, "tap", 2, 16, 1).due(1, "tap", 3, 17, 1).due(3, "count", 3);
        // It is lost no longer than that is so, and keeps its delay and gain.
        x.due(17, "giveBack", 1).due(0, "tapOf", 3, 2).due(2, "count", 3);
        x.due(63, "giveBack", 46).due(0, "tapOf", 1, 2).due(1, "tapOf", 0, 2);
        x.due(64, "giveBack", 1).due(0, "tapOf", 0, 2).due(64, "tapOf", 0, 0).due(900, "tapOf", 0, 1).due(0, "count", 3);
        x.samples(1000).call("silence", 63);
        x.due(900, "sample", 0);
    }

    @Says(in = "Memory", text = "A tap, or the feedback, whose delay is greater than the length of the ring, is lost")
    static void theFeedbackIsLostBehindTheLengthOfTheRing() {
        Echoes x = Echoes.with("f17,500;s1000;z15;k47;");
        x.due(0, "tapOf", 4, 2).due(16, "steal", 1).due(1, "tapOf", 4, 2).samples(0);
        // What has been the 17th word goes, and nothing of it comes back.
        x.due(0, "tapOf", 4, 3).samples(0).words(0).due(0, "count", 5);
        x = Echoes.with("f16,500;k48;s1000;z15;");
        x.due(0, "tapOf", 4, 2).due(1000, "tapOf", 4, 3).samples(0).words(500);
        x = Echoes.with("f64,950;k1;");
        x.due(1, "tapOf", 4, 2).due(64, "giveBack", 1).due(0, "tapOf", 4, 2).due(950, "tapOf", 4, 1);
    }

    @Says(in = "Memory", text = "is lost as long as that is so: it reads 0")
    static void whatIsLostDoesNotReadWhatLiesBehindTheRing() {
        Echoes x = Echoes.with("t0,17,900;f17,900;k48;s1000;z16;");
        x.due(0, "tapOf", 0, 3).due(0, "tapOf", 4, 3).due(0, "sample", 0).words(0);
        x = Echoes.with("t0,17,900;f17,900;s1000;z16;");
        x.due(1000, "tapOf", 0, 3).due(16, "steal", 48).due(0, "tapOf", 0, 3).due(0, "sample", 0).words(0);
    }

    @Says(in = "Memory", text = "Otherwise it reads the word number delay - 1, as it is ahead of the sample.")
    static void aTapReadsTheWordAheadOfTheSample() {
        // By the delay 1 it reads the sample before, not the one that goes in.
        Echoes x = Echoes.with("t0,1,500;f1,500;s100;");
        x.due(100, "tapOf", 0, 3).due(100, "tapOf", 4, 3).due(4050, "sample", 4000).words(4050, 100);
        // By the delay 64 it reads the word that goes with this sample.
        x = Echoes.with("t0,64,500;f64,100;s1000;z63;");
        x.due(1000, "tapOf", 0, 3).due(500, "sample", 0).words(100).due(0, "tapOf", 0, 3);
        x = Echoes.with("t0,16,500;f16,100;k48;s1000;z15;");
        x.due(1000, "tapOf", 0, 3).due(500, "sample", 0).words(100).due(0, "tapOf", 0, 3);
    }

    @Says(in = "Memory", text = "it reads the word number delay - 1")
    static void aTapReadsByEachDelay() {
        for (int delay = 1; delay <= 64; delay++) {
            Echoes x = Echoes.with(OFTEN_WRAPPED);
            x.call("tap", 3, delay, -900);
            x.call("feedback", delay, 700);
            x.samples(1000);
            if (delay > 1) {
                x.due(0, "silence", delay - 1);
            }
            x.due(1000, "wordOf", delay - 1).due(1000, "tapOf", 3, 3).due(-900, "sample", 0).words(700);
        }
    }
}
