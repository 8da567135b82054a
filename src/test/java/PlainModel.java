import java.util.ArrayList;
import java.util.List;
import java.util.regex.Matcher;
import java.util.regex.Pattern;

/** The document once more, as plainly as can be and by other means than the program: what ModelRuns compares with. */
final class PlainModel {
    static final int INVALID = -1000001;
    static final int IMPOSSIBLE = -1000002;
    static final int LIMIT = -1000003;
    static final int MISSING = -1000004;

    private static final Pattern ORDER = Pattern.compile(
        "s-?[0-9]{1,5};|z[0-9]{1,5};|t[0-9]{1,5},[0-9]{1,5},-?[0-9]{1,5};|f[0-9]{1,5},[0-9]{1,5};|[kg][0-9]{1,5};");

    /** Everything but the text and the history. */
    private static final class Everything {
        List<Integer> ring = new ArrayList<>();
        List<Integer> outputs = new ArrayList<>();
        Integer[] delays = new Integer[4];
        int[] gains = new int[4];
        int feedbackDelay = 16;
        int feedbackGain = 0;
        int limit = 16000;
        int shape = 0;
        int samples, greatest, heldOutputs, heldNumbers, stolen;
        long sum;

        Everything copy() {
            Everything other = new Everything();
            other.ring = new ArrayList<>(ring);
            other.outputs = new ArrayList<>(outputs);
            other.delays = delays.clone();
            other.gains = gains.clone();
            other.feedbackDelay = feedbackDelay;
            other.feedbackGain = feedbackGain;
            other.limit = limit;
            other.shape = shape;
            other.samples = samples;
            other.greatest = greatest;
            other.heldOutputs = heldOutputs;
            other.heldNumbers = heldNumbers;
            other.stolen = stolen;
            other.sum = sum;
            return other;
        }

        Everything copyWithSilentRing() {
            Everything other = copy();
            for (int i = 0; i < other.ring.size(); i++) other.ring.set(i, 0);
            return other;
        }

        int read(int delay) {
            return delay > ring.size() ? 0 : ring.get(delay - 1);
        }

        int shaped(int number) {
            int amount = number < 0 ? -number : number;
            int sign = number < 0 ? -1 : 1;
            if (shape == 0) {
                if (number > limit) return limit;
                if (number < -limit) return -limit;
                return number;
            }
            if (shape == 1) {
                int half = limit / 2;
                if (amount <= half) return number;
                int there = half + (amount - half) / 2;
                if (there > limit) there = limit;
                return sign * there;
            }
            return amount > limit ? 0 : number;
        }

        int through(int number) {
            int sumOfAll = number;
            for (int t = 0; t < 4; t++) {
                if (delays[t] != null) sumOfAll += gains[t] * read(delays[t]) / 1000;
            }
            int into = number + feedbackGain * read(feedbackDelay) / 1000;
            int output = shaped(sumOfAll);
            int written = shaped(into);
            samples++;
            sum += Math.abs(output);
            greatest = Math.max(greatest, Math.abs(output));
            if (output != sumOfAll) heldOutputs++;
            if (written != into) heldNumbers++;
            outputs.add(0, output);
            if (outputs.size() > 12) outputs.remove(12);
            ring.add(0, written);
            ring.remove(ring.size() - 1);
            return output;
        }

        boolean quiet(int amount) {
            for (int word : ring) if (Math.abs(word) > amount) return false;
            return true;
        }

        // The calls that orders can stand for; they answer as the calls do.
        int sample(int number) {
            return out(number, -20000, 20000) ? INVALID : through(number);
        }

        int silence(int many) {
            if (out(many, 1, 200)) return INVALID;
            int most = 0;
            for (int i = 0; i < many; i++) most = Math.max(most, Math.abs(through(0)));
            return most;
        }

        int tap(int tap, int delay, int gain) {
            if (out(tap, 0, 3) || out(delay, 1, 64) || out(gain, -900, 900)) return INVALID;
            delays[tap] = delay;
            gains[tap] = gain;
            return delay > ring.size() ? 1 : 0;
        }

        int feedback(int delay, int gain) {
            if (out(delay, 1, 64) || out(gain, 0, 950)) return INVALID;
            int had = feedbackGain;
            feedbackDelay = delay;
            feedbackGain = gain;
            return had;
        }

        int steal(int words) {
            if (out(words, 1, 48)) return INVALID;
            if (64 - ring.size() + words > 48) return LIMIT;
            for (int i = 0; i < words; i++) ring.remove(ring.size() - 1);
            stolen += words;
            return ring.size();
        }

        int giveBack(int words) {
            if (out(words, 1, 48)) return INVALID;
            if (64 - ring.size() < words) return IMPOSSIBLE;
            for (int i = 0; i < words; i++) ring.add(0);
            return ring.size();
        }

        int order(String order) {
            String[] parts = order.substring(1, order.length() - 1).split(",");
            int[] n = new int[3];
            for (int i = 0; i < parts.length; i++) n[i] = Integer.parseInt(parts[i]);
            switch (order.charAt(0)) {
                case 's': return sample(n[0]);
                case 'z': return silence(n[0]);
                case 't': return tap(n[0], n[1], n[2]);
                case 'f': return feedback(n[0], n[1]);
                case 'k': return steal(n[0]);
                default: return giveBack(n[0]);
            }
        }
    }

    private Everything now = new Everything();
    private final List<Everything> history = new ArrayList<>();
    private String text = "";

    PlainModel() {
        for (int i = 0; i < 64; i++) now.ring.add(0);
    }

    long sumOfAmounts() {
        return now.sum;
    }

    private static boolean out(int number, int least, int most) {
        return number < least || number > most;
    }

    private static boolean isError(int answer) {
        return answer >= MISSING && answer <= INVALID;
    }

    private int change(Everything before, int answer) {
        if (isError(answer)) {
            now = before;
            return answer;
        }
        history.add(before);
        if (history.size() > 4) history.remove(0);
        return answer;
    }

    int sample(int number) { return change(now.copy(), now.sample(number)); }

    int silence(int many) { return change(now.copy(), now.silence(many)); }

    int tap(int tap, int delay, int gain) { return change(now.copy(), now.tap(tap, delay, gain)); }

    int off(int tap) {
        if (out(tap, 0, 3)) return INVALID;
        if (now.delays[tap] == null) return IMPOSSIBLE;
        Everything before = now.copy();
        int delay = now.delays[tap];
        now.delays[tap] = null;
        return change(before, delay);
    }

    int feedback(int delay, int gain) { return change(now.copy(), now.feedback(delay, gain)); }

    int steal(int words) { return change(now.copy(), now.steal(words)); }

    int giveBack(int words) { return change(now.copy(), now.giveBack(words)); }

    int set(int what, int value) {
        if (what == 0 ? out(value, 100, 30000) : what != 1 || out(value, 0, 2)) return INVALID;
        Everything before = now.copy();
        int was = what == 0 ? now.limit : now.shape;
        if (what == 0) now.limit = value; else now.shape = value;
        return change(before, was);
    }

    int reset() {
        Everything before = now.copy();
        int were = now.samples;
        now.samples = 0;
        now.greatest = 0;
        now.heldOutputs = 0;
        now.heldNumbers = 0;
        now.sum = 0;
        return change(before, were);
    }

    int tapOf(int tap, int what) {
        if (out(tap, 0, 4) || out(what, 0, 4)) return INVALID;
        if (tap < 4 && now.delays[tap] == null) return MISSING;
        int delay = tap == 4 ? now.feedbackDelay : now.delays[tap];
        int gain = tap == 4 ? now.feedbackGain : now.gains[tap];
        return new int[] {delay, gain, delay > now.ring.size() ? 1 : 0, now.read(delay), gain * now.read(delay) / 1000}[what];
    }

    int wordOf(int word) {
        if (out(word, 0, 63)) return INVALID;
        return word < now.ring.size() ? now.ring.get(word) : MISSING;
    }

    int outputOf(int index) {
        if (index < 0) return INVALID;
        return index < now.outputs.size() ? now.outputs.get(index) : MISSING;
    }

    int meter(int what) {
        if (out(what, 0, 4)) return INVALID;
        if (what == 4) return now.samples == 0 ? MISSING : Float.floatToIntBits((float) now.sum / (float) now.samples);
        return new int[] {now.samples, now.greatest, now.heldOutputs, now.heldNumbers}[what];
    }

    int echo(int number, int after) {
        if (out(number, -20000, 20000) || out(after, 0, 200)) return INVALID;
        Everything other = now.copyWithSilentRing();
        int output = other.through(number);
        for (int i = 0; i < after; i++) output = other.through(0);
        return output;
    }

    int quietAfter(int amount) {
        if (out(amount, 0, 20000)) return INVALID;
        Everything other = now.copy();
        for (int i = 0; i <= 500; i++) {
            if (other.quiet(amount)) return i;
            other.through(0);
        }
        return MISSING;
    }

    int loudest() {
        int sum = 0;
        for (int t = 0; t < 4; t++) {
            if (now.delays[t] != null && now.delays[t] <= now.ring.size()) sum += Math.abs(now.gains[t] * now.limit / 1000);
        }
        return sum;
    }

    int safeGain(int many, int amount) {
        if (out(many, 1, 200) || out(amount, 0, 20000)) return INVALID;
        int low = 0;
        int high = 950;
        while (low < high) {
            int middle = (low + high + 1) / 2;
            Everything other = now.copyWithSilentRing();
            other.feedbackGain = middle;
            other.through(20000);
            for (int i = 0; i < many; i++) other.through(0);
            if (other.quiet(amount)) low = middle; else high = middle - 1;
        }
        return low;
    }

    int count(int what) {
        int on = 0;
        int lost = 0;
        for (Integer delay : now.delays) {
            if (delay != null) on++;
            if (delay != null && delay > now.ring.size()) lost++;
        }
        int sum = 0;
        int notZero = 0;
        for (int word : now.ring) {
            sum += Math.abs(word);
            if (word != 0) notZero++;
        }
        switch (what) {
            case 0: return now.ring.size();
            case 1: return 64 - now.ring.size();
            case 2: return on;
            case 3: return lost;
            case 4: return sum;
            case 5: return notZero;
            case 6: return now.stolen;
            case 7: return history.size();
            case 8: return text.length();
            case 20: return now.limit;
            case 21: return now.shape;
            default: return INVALID;
        }
    }

    int undo() {
        if (history.isEmpty()) return IMPOSSIBLE;
        now = history.remove(history.size() - 1);
        return history.size();
    }

    int type(int character) {
        if (out(character, 32, 126)) return INVALID;
        if (text.length() >= 60) return LIMIT;
        text = text + (char) character;
        return text.length();
    }

    int clearText() {
        int had = text.length();
        text = "";
        return had;
    }

    /** Position, reason and cause, or null, when the orders are done on a copy. */
    private int[] faultOfText() {
        Everything other = now.copy();
        int at = 0;
        while (at < text.length()) {
            Matcher matcher = ORDER.matcher(text.substring(at));
            if (!matcher.lookingAt()) return new int[] {at, 1, breakOff(text.substring(at))};
            int answer = other.order(matcher.group());
            if (isError(answer)) return new int[] {at, 2, answer};
            at += matcher.end();
        }
        return null;
    }

    /** The length of the longest beginning that could still become an order. */
    private static int breakOff(String order) {
        int length = 0;
        while (length < order.length() && couldBecomeOrder(order.substring(0, length + 1))) length++;
        return length;
    }

    private static boolean couldBecomeOrder(String beginning) {
        Matcher matcher = ORDER.matcher(beginning);
        return !matcher.matches() && matcher.hitEnd();
    }

    int fault(int what) {
        if (out(what, 0, 2)) return INVALID;
        int[] fault = faultOfText();
        return fault == null ? MISSING : fault[what];
    }

    int play() {
        if (faultOfText() != null) return IMPOSSIBLE;
        Everything before = now.copy();
        Matcher matcher = ORDER.matcher(text);
        int orders = 0;
        while (matcher.find()) {
            now.order(matcher.group());
            orders++;
        }
        return change(before, orders);
    }
}
