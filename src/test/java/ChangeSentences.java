/** What the document says under 'Changes and errors'. */
final class ChangeSentences {
    private static final String BEFORE = "t0,3,500;t1,60,-100;f2,300;k7;s900;s-20000;z3;";
    private static final String[] CHANGES = {"sample 20000", "silence 5", "tap 2 9 9", "tap 0 64 1", "off 0", "feedback 1 950",
        "steal 41", "giveBack 7", "set 0 555", "set 1 2", "reset", "play"};
    private static final String[] NO_CHANGES = {"tapOf 0 0", "wordOf 0", "outputOf 0", "meter 0", "meter 4", "echo 20000 200",
        "quietAfter 0", "loudest", "safeGain 200 0", "count 0", "fault 0"};
    private static final String[] REFUSED = {"sample 20001", "sample -20001", "silence 0", "silence 201", "tap -1 1 1", "tap 4 1 1",
        "tap 2 0 1", "tap 2 65 1", "tap 0 1 -901", "tap 0 1 901", "off -1", "off 4", "off 3", "feedback 0 1", "feedback 65 1",
        "feedback 1 -1", "feedback 1 951", "steal 0", "steal 42", "steal 49", "giveBack 0", "giveBack 8", "giveBack 49", "set -1 100",
        "set 2 100", "set 0 99", "set 0 30001", "set 1 -1", "set 1 3", "tapOf 5 0", "tapOf 0 5", "tapOf 2 0", "wordOf 64", "wordOf 63",
        "outputOf -1", "outputOf 12", "meter 5", "echo 20001 0", "echo 0 201", "quietAfter -1", "quietAfter 20001", "safeGain 0 0",
        "safeGain 1 -1", "count 9", "type 31", "type 127", "fault 3", "play"};

    /** A call that is written as its name and its arguments. */
    private static int call(Echoes x, String call) {
        String[] parts = call.split(" ");
        int[] arguments = new int[parts.length - 1];
        for (int i = 0; i < arguments.length; i++) {
            arguments[i] = Integer.parseInt(parts[i + 1]);
        }
        return x.call(parts[0], arguments);
    }

    private static void isError(Echoes x, String call) {
        int answer = call(x, call);
        if (answer > Echoes.INVALID || answer < Echoes.MISSING) {
            Echoes.tell(call + " answered " + answer + ", which is no error");
        }
    }

    @Says(in = "Changes and errors", text = "The changes are the calls of sample, silence, tap, off, feedback, steal, giveBack, set, reset and play")
    static void eachChangeIsAStateOfTheHistory() {
        for (String change : CHANGES) {
            Echoes x = Echoes.with(BEFORE);
            x.due(1, "count", 7);
            call(x, change);
            x.due(2, "count", 7);
        }
        Echoes x = Echoes.with(BEFORE);
        for (String call : NO_CHANGES) {
            call(x, call);
            x.due(1, "count", 7);
        }
        x.due(1, "type", 's').due(1, "count", 7).due(1, "clearText").due(1, "count", 7).due(0, "undo").due(0, "count", 7);
    }

    @Says(in = "Changes and errors", text = "The changes are the calls")
    static void aChangeThatMakesNoDifferenceIsOne() {
        Echoes x = new Echoes();
        x.due(0, "reset").due(1, "count", 7).due(16000, "set", 0, 16000).due(2, "count", 7).due(0, "feedback", 16, 0).due(3, "count", 7);
        x.due(0, "play").due(4, "count", 7).due(3, "undo").due(2, "undo").due(1, "undo").due(0, "undo");
    }

    @Says(in = "Changes and errors", text = "that return no error.")
    static void aCallThatReturnsAnErrorIsNoChange() {
        for (String call : REFUSED) {
            Echoes x = Echoes.with(BEFORE);
            x.call("type", 'x');
            isError(x, call);
            x.due(1, "count", 7);
        }
    }

    @Says(in = "Changes and errors", text = "A history of at most 4 states is kept:")
    static void theHistoryHasAtMost4States() {
        Echoes x = new Echoes();
        x.due(0, "count", 7);
        for (int i = 1; i <= 10; i++) {
            x.samples(i).due(Math.min(i, 4), "count", 7);
        }
        for (int left = 3; left >= 0; left--) {
            x.due(left, "undo").due(left, "count", 7);
        }
        x.due(Echoes.IMPOSSIBLE, "undo").due(0, "count", 7);
    }

    @Says(in = "Changes and errors", text = "each change records everything before it but the text,")
    static void everythingIsRecordedButTheText() {
        for (String change : CHANGES) {
            Echoes x = Echoes.with(BEFORE);
            x.write("s500;k1;");
            int[] before = x.everything();
            call(x, change);
            x.write("z1;");
            x.due(1, "undo").unchanged(before, change + " and its undo").due(11, "count", 8).due(3, "play");
        }
    }

    @Says(in = "Changes and errors", text = "everything before it but the text")
    static void anUndoRestoresNoText() {
        Echoes x = new Echoes();
        x.write("s1;").due(1, "play").due(3, "clearText").due(0, "undo").due(0, "count", 8);
        x.write("z5").samples(3).due(2, "count", 8).due(0, "undo").due(2, "count", 8).due(3, "type", ';').due(1, "play").due(5, "meter", 0);
    }

    @Says(in = "Changes and errors", text = "and if there are 5 states then, the oldest one is dropped.")
    static void theOldestOf5StatesIsDropped() {
        for (int changes = 4; changes <= 14; changes++) {
            Echoes x = new Echoes();
            for (int i = 1; i <= changes; i++) {
                x.samples(i);
            }
            for (int back = 1; back <= 4; back++) {
                x.due(4 - back, "undo").words(changes - back).due(changes - back, "meter", 0);
            }
            x.due(Echoes.IMPOSSIBLE, "undo").words(changes - 4).due(changes - 4, "meter", 0);
        }
    }

    @Says(in = "Changes and errors", text = "at most 4 states is kept: each change records everything before it")
    static void changesBehindAnUndoAreRecordedAnew() {
        Echoes x = new Echoes();
        x.samples(1, 2, 3, 4, 5, 6).due(3, "undo").due(2, "undo").words(4).samples(7, 8, 9).due(4, "count", 7);
        x.due(3, "undo").words(8).due(2, "undo").words(7).due(1, "undo").words(4).due(0, "undo").words(3);
        x.due(Echoes.IMPOSSIBLE, "undo").samples(10).due(1, "count", 7).due(0, "undo").words(3);
    }

    @Says(in = "Changes and errors", text = {"If several errors apply to a call, INVALID_ARGUMENT is returned rather than NOT_POSSIBLE,",
        "NOT_POSSIBLE rather than LIMIT_REACHED, and LIMIT_REACHED rather than NOT_FOUND."})
    static void ofSeveralErrorsTheGravestIsReturned() {
        Echoes x = new Echoes();
        // With NOT_POSSIBLE.
        x.due(Echoes.IMPOSSIBLE, "giveBack", 48).due(Echoes.INVALID, "giveBack", 49).due(Echoes.INVALID, "giveBack", 0);
        x.due(Echoes.IMPOSSIBLE, "off", 3).due(Echoes.INVALID, "off", 4).due(Echoes.INVALID, "off", -1);
        // With NOT_FOUND.
        x.due(Echoes.MISSING, "tapOf", 0, 4).due(Echoes.INVALID, "tapOf", 0, 5).due(Echoes.INVALID, "tapOf", 0, -1);
        x.due(Echoes.MISSING, "outputOf", 0).due(Echoes.INVALID, "outputOf", -1);
        x.due(Echoes.MISSING, "meter", 4).due(Echoes.INVALID, "meter", 5);
        x.due(Echoes.MISSING, "fault", 2).due(Echoes.INVALID, "fault", 3).due(Echoes.INVALID, "fault", -1);
        // With LIMIT_REACHED.
        x.due(16, "steal", 48).due(Echoes.LIMIT, "steal", 48).due(Echoes.INVALID, "steal", 49).due(Echoes.INVALID, "steal", 0);
        x.due(Echoes.MISSING, "wordOf", 63).due(Echoes.INVALID, "wordOf", 64);
        for (int i = 0; i < 60; i++) {
            x.call("type", 'z');
        }
        x.due(Echoes.LIMIT, "type", 126).due(Echoes.INVALID, "type", 127).due(Echoes.INVALID, "type", 31);
    }

    @Says(in = "Changes and errors", text = "A call that returns an error changes nothing.")
    static void anErrorChangesNothing() {
        for (String call : REFUSED) {
            Echoes x = Echoes.with(BEFORE);
            x.write("z1;k9;x");
            int[] before = x.everything();
            isError(x, call);
            x.unchanged(before, call).due(1, "count", 7).due(7, "count", 8).due(6, "fault", 0);
        }
        Echoes x = new Echoes();
        int[] before = x.everything();
        x.due(Echoes.IMPOSSIBLE, "undo").unchanged(before, "undo").due(0, "count", 7);
    }

    @Says(in = "Changes and errors", text = "If there is no tap with a certain number, this is INVALID_ARGUMENT.")
    static void aTapThatThereIsNotIsAnInvalidArgument() {
        for (int tap : new int[] {-1, 4, 5, 64, Integer.MIN_VALUE, Integer.MAX_VALUE}) {
            Echoes x = new Echoes();
            x.due(Echoes.INVALID, "tap", tap, 1, 1).due(Echoes.INVALID, "off", tap);
            if (tap != 4) {
                x.due(Echoes.INVALID, "tapOf", tap, 0);
            }
        }
        new Echoes().fault("t4,1,1;", 0, 2, Echoes.INVALID);
    }

    @Says(in = "Changes and errors", text = {"`INVALID_ARGUMENT = -1000001`: An argument is out of its range, or there is no such tap.",
        "`NOT_POSSIBLE = -1000002`: The call is not possible in the present state.", "`LIMIT_REACHED = -1000003`: A fixed limit has been reached.",
        "`NOT_FOUND = -1000004`: There is no such value."})
    static void theConstantsAreTheErrors() {
        Echoes x = new Echoes();
        x.due(-1000001, "sample", 20001).due(SharedEchoes.INVALID_ARGUMENT, "tap", 4, 1, 1);
        x.due(-1000002, "undo").due(SharedEchoes.NOT_POSSIBLE, "off", 0);
        x.due(16, "steal", 48).due(-1000003, "steal", 1).due(SharedEchoes.LIMIT_REACHED, "steal", 1);
        x.due(-1000004, "outputOf", 0).due(SharedEchoes.NOT_FOUND, "wordOf", 16);
    }
}
