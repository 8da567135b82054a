import com.sun.management.ThreadMXBean;
import java.lang.management.ManagementFactory;

/** All calls of a run live in one room: no call may make an object, and a new echo is to be small. */
public final class RoomTest {
    private static final int ROUNDS = 200;
    private static final int ECHOES = 50;
    // A new echo has some 60 objects and arrays with some 800 fields and elements.
    private static final long MOST_BYTES_OF_AN_ECHO = 8000;
    // What the machine itself may make while it counts; one object a round would be more.
    private static final long MOST_BYTES_OF_ALL_CALLS = 8L * ROUNDS;
    private static final String TEXT = "k40;t3,24,-5;f24,900;s9;z200;z200;z200;z200;g39;k40;z9;s-1;";

    private static final ThreadMXBean MACHINE = (ThreadMXBean) ManagementFactory.getThreadMXBean();

    public static void main(String[] args) {
        int answers = 0;
        SharedEchoes echo = new SharedEchoes();
        answers += everyCall(echo, 1);
        long before = MACHINE.getCurrentThreadAllocatedBytes();
        answers += everyCall(echo, ROUNDS);
        long ofCalls = MACHINE.getCurrentThreadAllocatedBytes() - before;
        SharedEchoes[] echoes = new SharedEchoes[ECHOES];
        before = MACHINE.getCurrentThreadAllocatedBytes();
        for (int i = 0; i < ECHOES; i++) {
            echoes[i] = new SharedEchoes();
        }
        long ofAnEcho = (MACHINE.getCurrentThreadAllocatedBytes() - before) / ECHOES;
        boolean right = ofCalls <= MOST_BYTES_OF_ALL_CALLS && ofAnEcho <= MOST_BYTES_OF_AN_ECHO;
        System.out.println(ROUNDS + " times every call: " + ofCalls + " bytes, a new echo: " + ofAnEcho + " bytes"
            + (right ? "" : ", which is too much") + " (answers: " + answers + ")");
        if (!right) {
            System.exit(1);
        }
    }

    /** The room is looked at beyond the 512th call, too; only the answers are free there. */
    private static int everyCall(SharedEchoes x, int rounds) {
        int answers = 0;
        for (int i = 0; i < rounds; i++) {
            answers += x.sample(20000) + x.silence(200) + x.tap(i & 3, 1 + (i & 63), 900) + x.feedback(16, 950) + x.steal(9);
            answers += x.tapOf(i & 3, 4) + x.tapOf(4, 3) + x.wordOf(5) + x.outputOf(3) + x.meter(4) + x.loudest();
            answers += x.echo(20000, 200) + x.quietAfter(0) + x.safeGain(200, 0) + x.set(0, 30000) + x.set(1, i % 3);
            answers += x.giveBack(9) + x.undo() + x.undo() + x.undo() + x.undo() + x.undo() + x.off(0);
            for (int what = 0; what <= 21; what++) {
                answers += x.count(what) + x.meter(what) + x.sample(20001 + what);
            }
            for (int at = 0; at < TEXT.length() + 1; at++) {
                answers += x.type(at < TEXT.length() ? TEXT.charAt(at) : 'x') + x.fault(at & 3);
            }
            answers += x.play() + x.clearText() + x.play() + x.undo() + x.reset();
        }
        return answers;
    }
}
