/** Promises 21 to 24: texts; and that an object is used for 512 calls. */
final class TextPromises {
    @Says(in = "What it is", text = "An object is used for at most 512 calls after it has been made;")
    static void the512thCallIsAnswered() {
        String[] last = {"sample", "silence", "off", "steal", "giveBack", "reset", "undo", "play", "clearText", "loudest"};
        int[][] arguments = {{700}, {200}, {0}, {30}, {9}, {}, {}, {}, {}, {}};
        int[] due = {700 + 350, 350, 1, 25, 64, 502, 3, 3, 9, 8000};
        for (int i = 0; i < last.length; i++) {
            Echoes x = new Echoes();
            x.write("k9;z1;s0;");
            x.due(3, "play").due(0, "tap", 0, 1, 500);
            while (x.calls() < 511) {
                x.samples(x.calls() == 510 ? 700 : x.calls());
            }
            x.due(due[i], last[i], arguments[i]);
        }
    }

    @Says(in = "What it is", text = "at most 512 calls after it has been made")
    static void manyPlaysOfManySamplesAreAnswered() {
        Echoes x = new Echoes();
        x.write("z200;z200;z200;z200;z200;z200;z200;z200;z200;z200;z200;z200;");
        int plays = 0;
        while (x.calls() < 510) {
            x.due(12, "play");
            plays++;
        }
        x.due(2400 * plays, "meter", 0).due(2400 * plays, "reset");
    }

    @Says(in = "Promise 21", text = {"`int type(int character)`: Appends a character to the text.", "Returns the length of the text;"})
    static void typeAppendsACharacter() {
        Echoes x = new Echoes();
        x.due(1, "type", 'z').due(2, "type", '4').due(3, "type", ';').due(1, "play").due(4, "meter", 0);
        x.due(4, "type", 's').due(5, "type", '8').due(6, "type", ';').due(2, "play").words(8).due(6, "count", 8).due(2, "count", 7);
    }

    @Says(in = "Promise 21", text = {"- `character`: 32 to 126", "INVALID_ARGUMENT if character is out of range;"})
    static void typeTakes32To126() {
        Echoes.range("type", 0, 32, 126, 32);
        for (int character = -1; character <= 130; character++) {
            boolean right = character >= 32 && character <= 126;
            new Echoes().due(right ? 1 : Echoes.INVALID, "type", character).due(right ? 1 : 0, "count", 8);
        }
    }

    @Says(in = "Promise 21", text = "LIMIT_REACHED if it has 60 characters.")
    static void typeReachesItsLimitAt60() {
        Echoes x = new Echoes();
        for (int length = 1; length <= 60; length++) {
            x.due(length, "type", 32 + length);
        }
        x.due(Echoes.LIMIT, "type", 'a').due(Echoes.LIMIT, "type", 32).due(Echoes.LIMIT, "type", 126).due(60, "count", 8);
        x.due(60, "clearText").due(1, "type", 'a');
    }

    @Says(in = "Promise 22", text = {"`int clearText()`: Empties the text.", "Returns the length it had."})
    static void clearTextReturnsTheLength() {
        Echoes x = new Echoes();
        x.due(0, "clearText").due(1, "type", 'x').due(1, "clearText").due(0, "clearText").due(0, "count", 8).due(Echoes.MISSING, "fault", 0);
        for (int i = 0; i < 60; i++) {
            x.call("type", '~');
        }
        x.due(60, "clearText").due(0, "count", 8).due(0, "play").due(1, "count", 7);
        // Nothing of the old text is left behind a new one.
        x.write("s1;").due(3, "clearText").write("s").fault("s", 0, 1, 1);
    }

    @Says(in = "Promise 23", text = {"`int fault(int what)`: Tells about the fault of the text.", "- `what`: 0: its position; 1: its reason; 2: its cause",
        "Returns that;"})
    static void faultTellsPositionReasonAndCause() {
        Echoes x = new Echoes();
        x.write("z1;f0,1;").due(3, "fault", 0).due(2, "fault", 1).due(Echoes.INVALID, "fault", 2).due(8, "clearText");
        x.write("z1;z2;f5,x").due(6, "fault", 0).due(1, "fault", 1).due(3, "fault", 2).due(10, "count", 8).due(0, "count", 7);
        x.due(0, "meter", 0);
    }

    @Says(in = "Promise 23", text = "INVALID_ARGUMENT if what is out of range;")
    static void faultTakes0To2() {
        Echoes.range("fault", 0, 0, 2, 0);
        Echoes x = new Echoes();
        x.write("x").due(Echoes.INVALID, "fault", 3).due(Echoes.INVALID, "fault", -1).due(0, "fault", 0).due(1, "fault", 1).due(0, "fault", 2);
    }

    @Says(in = "Promise 23", text = "NOT_FOUND if the text has no fault (also if it is empty).")
    static void faultFindsNoneInATextThatHasNone() {
        new Echoes().noFault("").noFault("s1;").noFault("z200;t0,1,900;f1,950;k48;g48;");
        // The fault that a text had is gone with it, or with what makes it possible.
        Echoes x = new Echoes();
        x.fault("s1", 0, 1, 2).due(3, "type", ';').due(Echoes.MISSING, "fault", 0).due(Echoes.MISSING, "fault", 1);
        x.fault("g1;", 0, 2, Echoes.IMPOSSIBLE).due(63, "steal", 1).due(Echoes.MISSING, "fault", 2).due(1, "play");
        x.due(Echoes.IMPOSSIBLE, "fault", 2);
    }

    @Says(in = "Promise 24", text = "`int play()`: Does all orders of the text, which stays.")
    static void playDoesAllOrdersOfTheText() {
        Echoes x = new Echoes();
        x.write("t0,3,500;f4,800;s-9000;z2;k9;g3;").due(6, "play").due(32, "count", 8).words(0, 0, -9000, 0).due(58, "count", 0);
        x.due(3, "tapOf", 0, 0).due(500, "tapOf", 0, 1).due(4, "tapOf", 4, 0).due(800, "tapOf", 4, 1).due(9, "count", 6);
        x.due(3, "meter", 0).due(6, "play").outputs(0, 0, -13500, 0, 0, -9000).words(0, -7200, -9000).due(52, "count", 0);
        // In their order: a tap that is lost when it is set, and found by the words that follow.
        x = Echoes.with("k48;t0,17,900;g1;s1000;z16;");
        x.due(0, "tapOf", 0, 2).due(900, "sample", 0);
    }

    @Says(in = "Promise 24", text = "They are one change, also if there are none.")
    static void ordersAreOneChange() {
        Echoes x = new Echoes();
        x.due(0, "play").due(1, "count", 7).due(0, "undo").due(Echoes.IMPOSSIBLE, "undo");
        x.write("s1;s2;s3;s4;s5;s6;k1;").due(7, "play").due(1, "count", 7).words(6, 5, 4, 3, 2, 1).due(0, "undo").words(0, 0, 0, 0, 0, 0);
        x.due(0, "meter", 0).due(0, "count", 1).outputs().due(21, "count", 8);
        for (int i = 1; i <= 6; i++) {
            x.due(7, "play").due(Math.min(i, 4), "count", 7);
        }
    }

    @Says(in = "Promise 24", text = "Returns how many there are in it;")
    static void playReturnsHowManyOrdersThereAre() {
        Echoes x = new Echoes();
        x.due(0, "play");
        for (int many = 1; many <= 20; many++) {
            x.write("z1;").due(many, "play");
        }
        x.due(210, "meter", 0);
        // One order of many samples is one order.
        x = new Echoes();
        x.write("z200;").due(1, "play").due(200, "meter", 0);
    }

    @Says(in = "Promise 24", text = "NOT_POSSIBLE if it has a fault.")
    static void playIsNotPossibleWithAFault() {
        for (String text : new String[] {"s1;s", "s1;g1;", "s1;k40;k9;", "x", "s1;s2;s3;z0;", "s1;;"}) {
            Echoes x = new Echoes();
            x.samples(7).write(text).due(Echoes.IMPOSSIBLE, "play").words(7, 0).due(1, "meter", 0).due(1, "count", 7).due(0, "count", 1);
            x.due(text.length(), "count", 8);
        }
    }
}
