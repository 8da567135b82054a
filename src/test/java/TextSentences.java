/** What the document says under 'Texts': the forms of orders and the fault of the text. */
final class TextSentences {
    /** By its form, each of these texts breaks off in its only order, at the character that stands beside it. */
    private static void breaksOff(Object... textsAndCauses) {
        for (int i = 0; i < textsAndCauses.length; i += 2) {
            new Echoes().fault((String) textsAndCauses[i], 0, 1, (Integer) textsAndCauses[i + 1]);
        }
    }

    private static void isPossible(String... texts) {
        for (String text : texts) {
            new Echoes().noFault(text);
        }
    }

    @Says(in = "Texts", text = "There is a text of at most 60 characters, initially empty:")
    static void theTextHasAtMost60Characters() {
        Echoes x = new Echoes();
        x.due(0, "count", 8).due(0, "play");
        for (int i = 0; i < 20; i++) {
            x.due(3 * i + 1, "type", 'z').due(3 * i + 2, "type", '1').due(3 * i + 3, "type", ';');
        }
        x.due(60, "count", 8).due(Echoes.LIMIT, "type", 'z').due(60, "count", 8).due(20, "play").due(20, "meter", 0);
        // What the 60 characters leave no room for is an order that the text ends too early.
        x.fault("z1;z1;z1;z1;z1;z1;z1;z1;z1;z1;z1;z1;z1;z1;z1;z1;z1;z1;z1;z12;", 57, 1, 3);
    }

    @Says(in = "Texts", text = "orders, each followed by \";\":")
    static void anOrderEndsWithASemicolon() {
        isPossible("s1;", "s1;s1;", "z1;t0,1,1;f1,1;k1;g1;");
        breaksOff("s1", 2, ";", 0, ";s1;", 0, "s1z1;", 2, "s1 ;", 2, "s1,", 2, "s1:", 2, "t0,1,1", 6, "f1,1", 4, "k1", 2, "g1", 2);
        new Echoes().fault("s1;;", 3, 1, 0).fault("s1; s1;", 3, 1, 0).fault("s1;s1", 3, 1, 2);
    }

    @Says(in = "Texts", text = "\"s\" a number, perhaps with \"-\" ahead of it (a sample),")
    static void sIsASample() {
        Echoes x = Echoes.with("s12;s-345;");
        x.words(-345, 12).outputs(-345, 12);
        isPossible("s0;", "s-0;", "s20000;", "s-20000;");
        breaksOff("s", 1, "s;", 1, "s-", 2, "s-;", 2, "s--1;", 2, "s1-;", 2, "s+1;", 1, "s1,2;", 2, "S1;", 0, "-1;", 0, "1;", 0);
    }

    @Says(in = "Texts", text = "\"z\" a number (so many samples that are 0),")
    static void zIsSilence() {
        Echoes x = Echoes.with("s9;z3;");
        x.words(0, 0, 0, 9).due(4, "meter", 0);
        isPossible("z1;", "z200;");
        breaksOff("z", 1, "z;", 1, "z-1;", 1, "z1,2;", 2, "Z1;", 0);
    }

    @Says(in = "Texts", text = "\"t\" a tap, \",\", a delay, \",\", a gain, perhaps with \"-\" ahead of it,")
    static void tIsATap() {
        Echoes x = Echoes.with("t2,17,-345;t3,64,900;");
        x.due(17, "tapOf", 2, 0).due(-345, "tapOf", 2, 1).due(64, "tapOf", 3, 0).due(900, "tapOf", 3, 1).due(2, "count", 2);
        isPossible("t0,1,-900;", "t3,64,900;", "t0,1,-0;");
        breaksOff("t", 1, "t;", 1, "t,1,1;", 1, "t0", 2, "t0;", 2, "t0,", 3, "t0,;", 3, "t0,,1;", 3, "t0,1", 4, "t0,1;", 4,
            "t0,1,", 5, "t0,1,;", 5, "t0,1,-", 6, "t0,1,-;", 6, "t0,1,--1;", 6, "t-0,1,1;", 1, "t0,-1,1;", 3, "t0,1,1,1;", 6,
            "t0;1;1;", 2, "t0,1;1;", 4, "T0,1,1;", 0);
    }

    @Says(in = "Texts", text = "\"f\" a delay, \",\", a gain (feedback),")
    static void fIsTheFeedback() {
        Echoes x = Echoes.with("f17,345;");
        x.due(17, "tapOf", 4, 0).due(345, "tapOf", 4, 1);
        isPossible("f1,0;", "f64,950;");
        breaksOff("f", 1, "f;", 1, "f,1;", 1, "f1", 2, "f1;", 2, "f1,", 3, "f1,;", 3, "f-1,1;", 1, "f1,-1;", 3, "f1,1,1;", 4, "F1,1;", 0);
    }

    @Says(in = "Texts", text = "\"k\" a number (words that are stolen)")
    static void kSteals() {
        Echoes x = Echoes.with("k17;");
        x.due(17, "count", 1).due(17, "count", 6);
        isPossible("k1;", "k48;");
        breaksOff("k", 1, "k;", 1, "k-1;", 1, "k1,1;", 2, "K1;", 0);
    }

    @Says(in = "Texts", text = "or \"g\" a number (words that are given back);")
    static void gGivesBack() {
        Echoes x = Echoes.with("k17;g9;");
        x.due(8, "count", 1).due(17, "count", 6);
        isPossible("k1;g1;", "k48;g48;");
        breaksOff("g", 1, "g;", 1, "g-1;", 1, "g1,1;", 2, "G1;", 0);
    }

    @Says(in = "Texts", text = "numbers of 1 to 5 digits,")
    static void aNumberHas1To5Digits() {
        isPossible("s20000;", "s1;", "s-12345;");
        breaksOff("s123456;", 6, "s-123456;", 7, "z123456;", 6, "t123456,1,1;", 6, "t1,123456,1;", 8, "t1,1,123456;", 10,
            "t1,1,-123456;", 11, "f123456,1;", 6, "f1,123456;", 8, "k123456;", 6, "g123456;", 6, "s000000;", 6, "z000001;", 6,
            "t000000,1,1;", 6, "s123456", 6);
        // What stands ahead of the digits and behind them in the order of characters is no digit.
        breaksOff("s/;", 1, "s:;", 1, "s1/;", 2, "s1:;", 2);
        isPossible("s0;", "s9;", "s10289;", "s-9000;", "s13456;", "s798;");
    }

    @Says(in = "Texts", text = "0 ahead allowed.")
    static void aNumberMayHave0Ahead() {
        Echoes x = Echoes.with("s00012;s-00345;z00001;t00002,00017,-00009;f00004,00099;");
        x.words(0, -345, 12).due(17, "tapOf", 2, 0).due(-9, "tapOf", 2, 1).due(4, "tapOf", 4, 0).due(99, "tapOf", 4, 1);
        x = Echoes.with("k00017;g00009;t03,010,011;");
        x.due(8, "count", 1).due(10, "tapOf", 3, 0).due(11, "tapOf", 3, 1);
    }

    @Says(in = "Texts", text = "The fault of the text is the position, from 0, of the first character of the first order that is not possible;")
    static void theFaultIsWhereTheFirstOrderThatIsNotPossibleBegins() {
        Echoes x = new Echoes();
        x.fault("x", 0, 1, 0).fault("s1;x", 3, 1, 0).fault("s1;z1;x", 6, 1, 0).fault("t0,1,-1;f1,1;k1;g1;x", 19, 1, 0);
        x.fault("z0;", 0, 2, Echoes.INVALID).fault("s1;z0;", 3, 2, Echoes.INVALID).fault("k1;g1;g1;", 6, 2, Echoes.IMPOSSIBLE);
        // Only the first one counts, by whatever reason.
        x.fault("z0;x", 0, 2, Echoes.INVALID).fault("x;z0;", 0, 1, 0).fault("z1;k0;g1;", 3, 2, Echoes.INVALID);
        x.fault("z1;z1;z1;z1;z1;z1;z1;z1;z1;z1;z1;z1;z1;z1;z1;z1;z1;z1;z1;x", 57, 1, 0);
        x = new Echoes();
        x.fault("z1;z1;z1;z1;z1;z1;z1;z1;z1;z1;z1;z1;z1;z1;z1;z1;z1;z1;z1;zz", 57, 1, 1);
        x.fault("z1;z1;z1;z1;z1;z1;z1;z1;z1;z1;z1;z1;z1;z1;z1;z1;z1;z1;z1;z0;", 57, 2, Echoes.INVALID);
    }

    @Says(in = "Texts", text = "its reason is 1 if it is not of this form, its \";\" included,")
    static void theReasonIs1ByTheForm() {
        // The form counts ahead of what the call would say: these numbers are out of range, but no ";" follows.
        breaksOff("s99999", 6, "z0", 2, "t9,9,9999", 9, "f0,0", 4, "k0", 2, "g9", 2, "g9x;", 2, "k99z1;", 3);
        for (int character = 32; character <= 126; character++) {
            if ("sztfkg".indexOf(character) < 0) {
                breaksOff((char) character + "1;", 0);
            }
        }
    }

    @Says(in = "Texts", text = "and otherwise 2, when those ahead of it are done;")
    static void theReasonIs2WhenThoseAheadAreDone() {
        Echoes x = new Echoes();
        x.fault("g1;", 0, 2, Echoes.IMPOSSIBLE).noFault("k1;g1;").fault("k2;g1;g2;", 6, 2, Echoes.IMPOSSIBLE);
        x.noFault("k48;").fault("k48;k1;", 4, 2, Echoes.LIMIT).noFault("k48;g1;k1;").fault("k48;g1;k2;", 7, 2, Echoes.LIMIT);
        x.noFault("k24;k24;g48;k48;").fault("k24;k25;", 4, 2, Echoes.LIMIT);
        // What the program has before the text counts, and looking for the fault does nothing.
        x = Echoes.with("k20;");
        x.noFault("k28;").fault("k29;", 0, 2, Echoes.LIMIT).noFault("g20;").fault("g21;", 0, 2, Echoes.IMPOSSIBLE);
        x.noFault("g20;k48;").fault("g20;k48;k1;", 8, 2, Echoes.LIMIT).due(20, "count", 1).due(20, "count", 6).due(1, "count", 7);
    }

    @Says(in = "Texts", text = "its cause is with the reason 1 at which character of the order, from 0, it breaks off")
    static void theCauseIsWhereTheOrderBreaksOff() {
        String[] orders = {"s12345;", "s-12345;", "z00200;", "t00003,00064,-00900;", "t00003,00064,00900;", "f00064,00950;", "k00048;",
            "g00001;"};
        for (String order : orders) {
            for (int at = 0; at < order.length(); at++) {
                for (char other : new char[] {'x', ' ', order.charAt(at) == ';' ? ',' : ';'}) {
                    // A ";" ends a number early: only ahead of digits, or of the last number's end, it is wrong.
                    String broken = order.substring(0, at) + other + order.substring(at + 1);
                    boolean ends = other == ';' && endsEarly(order, at);
                    if (!ends) {
                        new Echoes().fault(broken, 0, 1, at).fault("z1;" + broken, 3, 1, at);
                    }
                }
            }
        }
    }

    /** Whether a ";" in this place, behind a digit of the order's last number, ends the order. */
    private static boolean endsEarly(String order, int at) {
        boolean behindDigit = at > 0 && Character.isDigit(order.charAt(at - 1));
        return behindDigit && order.indexOf(',', at) < 0;
    }

    @Says(in = "Texts", text = "(of one that the text ends too early it is its length),")
    static void theCauseIsTheLengthOfAnOrderThatTheTextEndsTooEarly() {
        String[] orders = {"s12345;", "s-12345;", "z00200;", "t00003,00064,-00900;", "f00064,00950;", "k00048;", "g00001;"};
        for (String order : orders) {
            for (int length = 1; length < order.length(); length++) {
                String early = order.substring(0, length);
                new Echoes().fault(early, 0, 1, length).fault("s1;" + early, 3, 1, length);
            }
        }
    }

    @Says(in = "Texts", text = "and with the reason 2 the error code that the call returns for it.")
    static void theCauseIsTheErrorOfTheCall() {
        String[] invalid = {"s20001;", "s-20001;", "s99999;", "s-99999;", "z0;", "z201;", "z99999;", "t4,1,1;", "t99999,1,1;", "t0,0,1;",
            "t0,65,1;", "t0,1,901;", "t0,1,-901;", "f0,1;", "f65,1;", "f1,951;", "f99999,99999;", "k0;", "k49;", "k99999;", "g0;",
            "g49;", "g99999;"};
        for (String order : invalid) {
            new Echoes().fault(order, 0, 2, Echoes.INVALID).fault("s1;" + order, 3, 2, Echoes.INVALID);
            // Out of range is told rather than what the state does not allow.
            Echoes.with("k48;").fault(order, 0, 2, Echoes.INVALID);
        }
        Echoes.with("k48;").fault("k1;", 0, 2, Echoes.LIMIT).fault("k48;", 0, 2, Echoes.LIMIT);
        new Echoes().fault("g1;", 0, 2, Echoes.IMPOSSIBLE).fault("g48;", 0, 2, Echoes.IMPOSSIBLE);
        isPossible("s20000;", "s-20000;", "z1;", "z200;", "t0,1,-900;", "t3,64,900;", "f1,0;", "f64,950;", "k1;", "k48;");
    }
}
