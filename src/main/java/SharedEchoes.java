import java.util.Arrays;

/** An echo whose ring of words is shared with a program that steals words and gives them back. */
public final class SharedEchoes {
    public static final int INVALID_ARGUMENT = -1000001;
    public static final int NOT_POSSIBLE = -1000002;
    public static final int LIMIT_REACHED = -1000003;
    public static final int NOT_FOUND = -1000004;

    private static final int NO_ERROR = 0;
    private static final int WORDS = 64;
    private static final int MOST_STOLEN = 48;
    private static final int TAPS = 4;
    // The feedback has the row behind the taps, as tapOf numbers it.
    private static final int FEEDBACK = 4;
    // A delay is never 0, so a tap with this one is off.
    private static final int NO_DELAY = 0;
    private static final int MOST_TAP_GAIN = 900;
    private static final int MOST_FEEDBACK_GAIN = 950;
    private static final int MOST_SAMPLE = 20000;
    private static final int MOST_SILENCE = 200;
    private static final int LONGEST_WAIT = 500;
    private static final int LEAST_LIMIT = 100;
    private static final int MOST_LIMIT = 30000;
    private static final int MOST_SHAPE = 2;
    private static final int OUTPUTS_KEPT = 12;
    private static final int STATES_KEPT = 4;
    private static final int TEXT_ROOM = 60;
    private static final int NUMBERS_OF_ORDER = 3;
    private static final int DIGITS = 5;
    private static final int REASON_FORM = 1;
    private static final int REASON_CALL = 2;

    private final State now;
    // What would be is tried here, so that no call makes objects.
    private final State trial;
    private final History history;
    private final Text text;
    private final Order order;
    private final Fault found;

    public SharedEchoes() {
        now = new State();
        trial = new State();
        history = new History();
        text = new Text();
        order = new Order();
        found = new Fault();
    }

    // ---- samples

    public int sample(int number) {
        int error = sampleError(number);
        if (error != NO_ERROR) {
            return error;
        }
        history.keep(now);
        return now.letThrough(number);
    }

    public int silence(int many) {
        int error = silenceError(many);
        if (error != NO_ERROR) {
            return error;
        }
        history.keep(now);
        return now.letSilenceThrough(many);
    }

    // ---- taps, feedback, memory

    public int tap(int tap, int delay, int gain) {
        int error = tapError(tap, delay, gain);
        if (error != NO_ERROR) {
            return error;
        }
        history.keep(now);
        now.putRow(tap, delay, gain);
        return now.isLost(tap) ? 1 : 0;
    }

    public int off(int tap) {
        if (!isTap(tap)) {
            return INVALID_ARGUMENT;
        }
        if (!now.isOn(tap)) {
            return NOT_POSSIBLE;
        }
        history.keep(now);
        int delay = now.delayOf(tap);
        now.putRow(tap, NO_DELAY, 0);
        return delay;
    }

    public int feedback(int delay, int gain) {
        int error = feedbackError(delay, gain);
        if (error != NO_ERROR) {
            return error;
        }
        history.keep(now);
        int before = now.gainOf(FEEDBACK);
        now.putRow(FEEDBACK, delay, gain);
        return before;
    }

    public int steal(int words) {
        int error = stealError(words, now.wordsOfProgram());
        if (error != NO_ERROR) {
            return error;
        }
        history.keep(now);
        now.takeWords(words);
        return now.ring.length;
    }

    public int giveBack(int words) {
        int error = giveBackError(words, now.wordsOfProgram());
        if (error != NO_ERROR) {
            return error;
        }
        history.keep(now);
        now.ring.lengthen(words);
        return now.ring.length;
    }

    public int set(int what, int value) {
        if (!isSetting(what, value)) {
            return INVALID_ARGUMENT;
        }
        history.keep(now);
        return now.putSetting(what, value);
    }

    public int reset() {
        history.keep(now);
        int samples = now.meters.samples;
        now.meters.startAnew();
        return samples;
    }

    // ---- what there is

    public int tapOf(int tap, int what) {
        if (!isWithin(tap, 0, FEEDBACK) || !isWithin(what, 0, 4)) {
            return INVALID_ARGUMENT;
        }
        if (!now.isOn(tap)) {
            return NOT_FOUND;
        }
        switch (what) {
            case 0:
                return now.delayOf(tap);
            case 1:
                return now.gainOf(tap);
            case 2:
                return now.isLost(tap) ? 1 : 0;
            case 3:
                return now.readingOf(tap);
            default:
                return now.shareOf(tap);
        }
    }

    public int wordOf(int word) {
        if (!isWithin(word, 0, WORDS - 1)) {
            return INVALID_ARGUMENT;
        }
        if (word >= now.ring.length) {
            return NOT_FOUND;
        }
        return now.ring.wordAt(word);
    }

    public int outputOf(int index) {
        if (index < 0) {
            return INVALID_ARGUMENT;
        }
        if (index >= now.outputs.kept) {
            return NOT_FOUND;
        }
        return now.outputs.latest(index);
    }

    public int meter(int what) {
        switch (what) {
            case 0:
                return now.meters.samples;
            case 1:
                return now.meters.greatest;
            case 2:
                return now.meters.heldOutputs;
            case 3:
                return now.meters.heldWords;
            case 4:
                return now.meters.samples == 0 ? NOT_FOUND : now.meters.bitsOfMean();
            default:
                return INVALID_ARGUMENT;
        }
    }

    // ---- what would be

    public int echo(int number, int after) {
        if (!isSample(number) || !isWithin(after, 0, MOST_SILENCE)) {
            return INVALID_ARGUMENT;
        }
        trial.takeOver(now);
        trial.ring.fillWithZeros();
        int output = trial.letThrough(number);
        for (int i = 0; i < after; i++) {
            output = trial.letThrough(0);
        }
        return output;
    }

    public int quietAfter(int amount) {
        if (!isWithin(amount, 0, MOST_SAMPLE)) {
            return INVALID_ARGUMENT;
        }
        trial.takeOver(now);
        int loud = trial.ring.wordsAbove(amount);
        int samples = 0;
        while (loud > 0 && samples < LONGEST_WAIT) {
            // Only the word that goes and the one that comes can change how many are loud.
            int last = trial.ring.wordAt(trial.ring.length - 1);
            int first = trial.feedRing(0);
            loud -= Math.abs(last) > amount ? 1 : 0;
            loud += Math.abs(first) > amount ? 1 : 0;
            samples++;
        }
        return loud > 0 ? NOT_FOUND : samples;
    }

    public int loudest() {
        int sum = 0;
        for (int tap = 0; tap < TAPS; tap++) {
            if (now.isOn(tap) && !now.isLost(tap)) {
                sum += Math.abs(thousandths(now.gainOf(tap), now.limit));
            }
        }
        return sum;
    }

    public int safeGain(int many, int amount) {
        if (!isWithin(many, 1, MOST_SILENCE) || !isWithin(amount, 0, MOST_SAMPLE)) {
            return INVALID_ARGUMENT;
        }
        trial.takeOver(now);
        int low = 0;
        int high = MOST_FEEDBACK_GAIN;
        for (int i = 0; i <= MOST_FEEDBACK_GAIN && low < high; i++) {
            int middle = (low + high + 1) / 2;
            if (wouldBeQuiet(middle, many, amount)) {
                low = middle;
            } else {
                high = middle - 1;
            }
        }
        return low;
    }

    public int count(int what) {
        switch (what) {
            case 0:
                return now.ring.length;
            case 1:
                return now.wordsOfProgram();
            case 2:
                return tapsOn();
            case 3:
                return tapsLost();
            case 4:
                return now.ring.sumOfAmounts();
            case 5:
                return now.ring.wordsAbove(0);
            case 6:
                return now.stolenSoFar;
            case 7:
                return history.kept;
            case 8:
                return text.length;
            case 20:
                return now.limit;
            case 21:
                return now.shape;
            default:
                return INVALID_ARGUMENT;
        }
    }

    public int undo() {
        if (history.kept == 0) {
            return NOT_POSSIBLE;
        }
        history.restoreInto(now);
        return history.kept;
    }

    // ---- texts

    public int type(int character) {
        if (!isWithin(character, 32, 126)) {
            return INVALID_ARGUMENT;
        }
        if (text.length >= TEXT_ROOM) {
            return LIMIT_REACHED;
        }
        text.append(character);
        return text.length;
    }

    public int clearText() {
        int length = text.length;
        text.length = 0;
        return length;
    }

    public int fault(int what) {
        if (!isWithin(what, 0, 2)) {
            return INVALID_ARGUMENT;
        }
        findFault();
        if (!found.there) {
            return NOT_FOUND;
        }
        if (what == 0) {
            return found.position;
        }
        return what == 1 ? found.reason : found.cause;
    }

    public int play() {
        findFault();
        if (found.there) {
            return NOT_POSSIBLE;
        }
        history.keep(now);
        int position = 0;
        int orders = 0;
        while (orders < TEXT_ROOM && position < text.length) {
            order.read(text, position);
            doOrder();
            position = order.end;
            orders++;
        }
        return orders;
    }

    // ---- what is asked of arguments

    private static boolean isWithin(int number, int least, int most) {
        return number >= least && number <= most;
    }

    private static boolean isTap(int tap) {
        return isWithin(tap, 0, TAPS - 1);
    }

    private static boolean isSample(int number) {
        return isWithin(number, -MOST_SAMPLE, MOST_SAMPLE);
    }

    private static boolean isSetting(int what, int value) {
        if (what == 0) {
            return isWithin(value, LEAST_LIMIT, MOST_LIMIT);
        }
        return what == 1 && isWithin(value, 0, MOST_SHAPE);
    }

    private static int sampleError(int number) {
        return isSample(number) ? NO_ERROR : INVALID_ARGUMENT;
    }

    private static int silenceError(int many) {
        return isWithin(many, 1, MOST_SILENCE) ? NO_ERROR : INVALID_ARGUMENT;
    }

    private static int tapError(int tap, int delay, int gain) {
        boolean right = isTap(tap) && isWithin(delay, 1, WORDS)
            && isWithin(gain, -MOST_TAP_GAIN, MOST_TAP_GAIN);
        return right ? NO_ERROR : INVALID_ARGUMENT;
    }

    private static int feedbackError(int delay, int gain) {
        boolean right = isWithin(delay, 1, WORDS) && isWithin(gain, 0, MOST_FEEDBACK_GAIN);
        return right ? NO_ERROR : INVALID_ARGUMENT;
    }

    private static int stealError(int words, int ofProgram) {
        if (!isWithin(words, 1, MOST_STOLEN)) {
            return INVALID_ARGUMENT;
        }
        return ofProgram + words > MOST_STOLEN ? LIMIT_REACHED : NO_ERROR;
    }

    private static int giveBackError(int words, int ofProgram) {
        if (!isWithin(words, 1, MOST_STOLEN)) {
            return INVALID_ARGUMENT;
        }
        return ofProgram < words ? NOT_POSSIBLE : NO_ERROR;
    }

    // ---- numbers

    private static int thousandths(int gain, int number) {
        return gain * number / 1000;
    }

    private static int shaped(int number, int shape, int limit) {
        int amount = Math.abs(number);
        int held = amount;
        if (shape == 1) {
            int half = limit / 2;
            if (amount > half) {
                held = Math.min(half + (amount - half) / 2, limit);
            }
        } else if (amount > limit) {
            held = shape == 2 ? 0 : limit;
        }
        return number < 0 ? -held : held;
    }

    private boolean wouldBeQuiet(int gain, int many, int amount) {
        trial.ring.fillWithZeros();
        trial.putRow(FEEDBACK, trial.delayOf(FEEDBACK), gain);
        trial.feedRing(MOST_SAMPLE);
        for (int i = 0; i < many; i++) {
            trial.feedRing(0);
        }
        return trial.ring.wordsAbove(amount) == 0;
    }

    private int tapsOn() {
        int many = 0;
        for (int tap = 0; tap < TAPS; tap++) {
            many += now.isOn(tap) ? 1 : 0;
        }
        return many;
    }

    private int tapsLost() {
        int many = 0;
        for (int tap = 0; tap < TAPS; tap++) {
            many += now.isOn(tap) && now.isLost(tap) ? 1 : 0;
        }
        return many;
    }

    // ---- orders

    private void findFault() {
        found.there = false;
        // Of all that orders change, only the words of the program decide what later ones may do.
        int ofProgram = now.wordsOfProgram();
        int position = 0;
        for (int i = 0; i < TEXT_ROOM && position < text.length; i++) {
            order.read(text, position);
            if (!order.whole) {
                found.put(position, REASON_FORM, order.end - position);
                return;
            }
            int error = orderError(ofProgram);
            if (error != NO_ERROR) {
                found.put(position, REASON_CALL, error);
                return;
            }
            ofProgram += wordsThatGo();
            position = order.end;
        }
    }

    private int orderError(int ofProgram) {
        int first = order.numberAt(0);
        int second = order.numberAt(1);
        switch (order.kind) {
            case 's':
                return sampleError(first);
            case 'z':
                return silenceError(first);
            case 't':
                return tapError(first, second, order.numberAt(2));
            case 'f':
                return feedbackError(first, second);
            case 'k':
                return stealError(first, ofProgram);
            default:
                return giveBackError(first, ofProgram);
        }
    }

    private int wordsThatGo() {
        int words = order.numberAt(0);
        if (order.kind == 'k') {
            return words;
        }
        return order.kind == 'g' ? -words : 0;
    }

    private void doOrder() {
        int first = order.numberAt(0);
        int second = order.numberAt(1);
        switch (order.kind) {
            case 's':
                now.letThrough(first);
                break;
            case 'z':
                now.letSilenceThrough(first);
                break;
            case 't':
                now.putRow(first, second, order.numberAt(2));
                break;
            case 'f':
                now.putRow(FEEDBACK, first, second);
                break;
            case 'k':
                now.takeWords(first);
                break;
            default:
                now.ring.lengthen(first);
                break;
        }
    }

    /** The words of the ring; they stay where they are, and their beginning wanders. */
    private static final class Ring {
        private static final int MASK = WORDS - 1;

        private final int[] words = new int[WORDS];
        private int first;
        int length = WORDS;

        int wordAt(int word) {
            if (word < 0 || word >= length) {
                return 0;
            }
            return words[(first + word) & MASK];
        }

        void write(int number) {
            first = (first - 1) & MASK;
            words[first & MASK] = number;
        }

        void shorten(int many) {
            length = Math.max(length - many, 0);
        }

        void lengthen(int many) {
            int longer = Math.min(length + many, WORDS);
            // Behind the end lie numbers from before, which are gone for the ring.
            for (int word = length; word < longer; word++) {
                words[(first + word) & MASK] = 0;
            }
            length = longer;
        }

        void fillWithZeros() {
            Arrays.fill(words, 0);
        }

        int wordsAbove(int amount) {
            int many = 0;
            for (int word = 0; word < length; word++) {
                many += Math.abs(wordAt(word)) > amount ? 1 : 0;
            }
            return many;
        }

        int sumOfAmounts() {
            int sum = 0;
            for (int word = 0; word < length; word++) {
                sum += Math.abs(wordAt(word));
            }
            return sum;
        }

        void takeOver(Ring other) {
            System.arraycopy(other.words, 0, words, 0, WORDS);
            first = other.first;
            length = other.length;
        }
    }

    /** The latest outputs. */
    private static final class Outputs {
        private final int[] row = new int[OUTPUTS_KEPT];
        private int next;
        int kept;

        void add(int output) {
            if (next < 0 || next >= OUTPUTS_KEPT) {
                next = 0;
            }
            row[next] = output;
            next++;
            kept = Math.min(kept + 1, OUTPUTS_KEPT);
        }

        int latest(int index) {
            if (index < 0 || index >= kept) {
                return 0;
            }
            return row[Math.floorMod(next - 1 - index, OUTPUTS_KEPT)];
        }

        void takeOver(Outputs other) {
            System.arraycopy(other.row, 0, row, 0, OUTPUTS_KEPT);
            next = other.next;
            kept = other.kept;
        }
    }

    /** What the meters tell of the samples since they were reset. */
    private static final class Meters {
        private static final int MEAN_STEPS = 200;
        private static final int EXPONENT_OF_ONE = 127;
        private static final int FRACTION_UNITS = 1 << 23;

        int samples;
        int greatest;
        int heldOutputs;
        int heldWords;
        // 512 calls can let through more than an int would hold.
        private long sum;

        void add(int output, boolean outputHeld, boolean wordHeld) {
            int amount = Math.abs(output);
            samples++;
            sum += amount;
            greatest = Math.max(greatest, amount);
            heldOutputs += outputHeld ? 1 : 0;
            heldWords += wordHeld ? 1 : 0;
        }

        void startAnew() {
            samples = 0;
            greatest = 0;
            heldOutputs = 0;
            heldWords = 0;
            sum = 0;
        }

        int bitsOfMean() {
            if (samples <= 0) {
                return 0;
            }
            return bitsOf((float) sum / (float) samples);
        }

        // The library that is allowed has nothing for the bits; doubling and halving are exact.
        private static int bitsOf(float number) {
            if (number <= 0f) {
                return 0;
            }
            float part = number;
            int exponent = EXPONENT_OF_ONE;
            for (int i = 0; i < MEAN_STEPS && part >= 2f; i++) {
                part = part / 2f;
                exponent++;
            }
            for (int i = 0; i < MEAN_STEPS && part < 1f; i++) {
                part = part * 2f;
                exponent--;
            }
            int fraction = (int) ((part - 1f) * (float) FRACTION_UNITS);
            return exponent * FRACTION_UNITS + fraction;
        }

        void takeOver(Meters other) {
            samples = other.samples;
            greatest = other.greatest;
            heldOutputs = other.heldOutputs;
            heldWords = other.heldWords;
            sum = other.sum;
        }
    }

    /** Everything but the text and the history. */
    private static final class State {
        private static final int ROWS = TAPS + 1;

        final Ring ring = new Ring();
        final Outputs outputs = new Outputs();
        final Meters meters = new Meters();
        private final int[] delays = new int[ROWS];
        private final int[] gains = new int[ROWS];
        int limit = 16000;
        int shape;
        int stolenSoFar;

        State() {
            delays[FEEDBACK] = 16;
        }

        private static boolean isRow(int row) {
            return row >= 0 && row < ROWS;
        }

        int delayOf(int row) {
            return isRow(row) ? delays[row] : NO_DELAY;
        }

        int gainOf(int row) {
            return isRow(row) ? gains[row] : 0;
        }

        void putRow(int row, int delay, int gain) {
            if (isRow(row)) {
                delays[row] = delay;
                gains[row] = gain;
            }
        }

        boolean isOn(int row) {
            return delayOf(row) != NO_DELAY;
        }

        boolean isLost(int row) {
            return delayOf(row) > ring.length;
        }

        // Of a tap that is lost or off, this is a word that the ring does not have, so it is 0.
        int readingOf(int row) {
            return isRow(row) ? ring.wordAt(delays[row] - 1) : 0;
        }

        int shareOf(int row) {
            return isRow(row) ? thousandths(gains[row], readingOf(row)) : 0;
        }

        int letThrough(int number) {
            int sum = number;
            for (int tap = 0; tap < TAPS; tap++) {
                sum += shareOf(tap);
            }
            int fed = number + shareOf(FEEDBACK);
            int output = shaped(sum, shape, limit);
            int word = shaped(fed, shape, limit);
            ring.write(word);
            outputs.add(output);
            meters.add(output, output != sum, word != fed);
            return output;
        }

        int letSilenceThrough(int many) {
            int greatest = 0;
            for (int i = 0; i < many; i++) {
                greatest = Math.max(greatest, Math.abs(letThrough(0)));
            }
            return greatest;
        }

        int feedRing(int number) {
            int word = shaped(number + shareOf(FEEDBACK), shape, limit);
            ring.write(word);
            return word;
        }

        int wordsOfProgram() {
            return WORDS - ring.length;
        }

        void takeWords(int many) {
            ring.shorten(many);
            stolenSoFar += many;
        }

        int putSetting(int what, int value) {
            int before = what == 0 ? limit : shape;
            if (what == 0) {
                limit = value;
            } else {
                shape = value;
            }
            return before;
        }

        void takeOver(State other) {
            ring.takeOver(other.ring);
            outputs.takeOver(other.outputs);
            meters.takeOver(other.meters);
            System.arraycopy(other.delays, 0, delays, 0, ROWS);
            System.arraycopy(other.gains, 0, gains, 0, ROWS);
            limit = other.limit;
            shape = other.shape;
            stolenSoFar = other.stolenSoFar;
        }
    }

    /** The states ahead of the latest changes; their objects are used again. */
    private static final class History {
        private final State[] states = new State[STATES_KEPT];
        private int oldest;
        int kept;

        History() {
            for (int i = 0; i < STATES_KEPT; i++) {
                states[i] = new State();
            }
        }

        private State stateAt(int age) {
            return states[Math.floorMod(oldest + age, STATES_KEPT)];
        }

        void keep(State state) {
            if (kept >= STATES_KEPT) {
                oldest = (oldest + 1) % STATES_KEPT;
                kept = STATES_KEPT - 1;
            }
            State place = stateAt(kept);
            if (place != null) {
                place.takeOver(state);
                kept++;
            }
        }

        void restoreInto(State state) {
            if (kept <= 0) {
                return;
            }
            State latest = stateAt(kept - 1);
            if (latest != null) {
                state.takeOver(latest);
                kept--;
            }
        }
    }

    /** The characters that were typed. */
    private static final class Text {
        static final int NO_CHARACTER = -1;

        private final int[] characters = new int[TEXT_ROOM];
        int length;

        int characterAt(int position) {
            if (position < 0 || position >= length || position >= TEXT_ROOM) {
                return NO_CHARACTER;
            }
            return characters[position];
        }

        void append(int character) {
            if (length >= 0 && length < TEXT_ROOM) {
                characters[length] = character;
                length++;
            }
        }
    }

    /** The order that was read last; "end" is the place behind it, or the one where it breaks off. */
    private static final class Order {
        private final int[] numbers = new int[NUMBERS_OF_ORDER];
        int kind;
        int end;
        boolean whole;

        int numberAt(int index) {
            return index >= 0 && index < NUMBERS_OF_ORDER ? numbers[index] : 0;
        }

        void read(Text text, int position) {
            kind = text.characterAt(position);
            end = position;
            int many = numbersOfKind();
            whole = many > 0;
            if (whole) {
                end++;
            }
            for (int i = 0; i < many && whole; i++) {
                boolean last = i == many - 1;
                readNumber(text, i, last && (kind == 's' || kind == 't'));
                if (whole) {
                    readSign(text, last ? ';' : ',');
                }
            }
        }

        private int numbersOfKind() {
            switch (kind) {
                case 's':
                case 'z':
                case 'k':
                case 'g':
                    return 1;
                case 'f':
                    return 2;
                case 't':
                    return 3;
                default:
                    return 0;
            }
        }

        private void readNumber(Text text, int index, boolean minusAllowed) {
            boolean minus = minusAllowed && text.characterAt(end) == '-';
            if (minus) {
                end++;
            }
            int value = 0;
            int digits = 0;
            while (digits < DIGITS && isDigit(text.characterAt(end))) {
                value = value * 10 + text.characterAt(end) - '0';
                digits++;
                end++;
            }
            whole = digits > 0;
            if (index >= 0 && index < NUMBERS_OF_ORDER) {
                numbers[index] = minus ? -value : value;
            }
        }

        private void readSign(Text text, int sign) {
            whole = text.characterAt(end) == sign;
            if (whole) {
                end++;
            }
        }

        private static boolean isDigit(int character) {
            return character >= '0' && character <= '9';
        }
    }

    /** The fault that was found last, if there was one. */
    private static final class Fault {
        boolean there;
        int position;
        int reason;
        int cause;

        void put(int newPosition, int newReason, int newCause) {
            there = true;
            position = newPosition;
            reason = newReason;
            cause = newCause;
        }
    }
}
