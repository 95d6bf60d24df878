import java.util.Set;

/**
 * Calls with any arguments in any state: each throws what the document lets it throw, or nothing.
 * They go on behind the 512th call, where answers are free but the machine still must not throw.
 */
public final class AnyCallsTest {
    private static final int OBJECTS = 60;
    private static final int CALLS = 6000;
    private static final int[] EDGES = {
        Integer.MIN_VALUE, Integer.MIN_VALUE + 1, -65536, -72, -64, -24, -13, -8, -2, -1, 0, 1, 6, 7, 8, 11, 12, 13, 16, 23, 24,
        25, 63, 64, 65, 71, 72, 108, 2592, 65535, 65536, 99999999, 100000000, Integer.MAX_VALUE - 1, Integer.MAX_VALUE
    };
    private static final String LIKELY = "abAB019_-./=~ ";

    private static final Set<String> NOTHING = Set.of("");
    private static final Set<String> ARGUMENT = Set.of("", "IllegalArgumentException");
    private static final Set<String> STATE = Set.of("", "IllegalStateException");
    private static final Set<String> BOTH = Set.of("", "IllegalArgumentException", "IllegalStateException");

    private final Check check;
    private final ActionDigests digests = new ActionDigests();
    private long state;

    private AnyCallsTest(Check check, long seed) {
        this.check = check;
        this.state = seed;
    }

    // A generator of our own: the calls are the same on every machine and at every time.
    private int below(int bound) {
        state = state * 6364136223846793005L + 1442695040888963407L;
        return (int) ((state >>> 33) % bound);
    }

    private int any() {
        switch (below(8)) {
            case 0:
                return EDGES[below(EDGES.length)];
            case 1:
                return (int) (state >>> 16);
            case 2:
                return below(3000);
            default:
                return below(9);
        }
    }

    private char character() {
        return below(12) == 0 ? (char) below(65536) : LIKELY.charAt(below(LIKELY.length()));
    }

    private void call(String call, Runnable run, Set<String> mayThrow) {
        String thrown = Subject.thrown(run);
        check.due(call + " threw '" + thrown + "', may throw one of " + mayThrow, mayThrow.contains(thrown), true);
    }

    private void next() {
        int a = any();
        int b = any();
        String two = "(" + a + ", " + b + ")";
        switch (below(24)) {
            case 0 -> call("action()", digests::action, STATE);
            case 1 -> call("hold()", digests::hold, NOTHING);
            case 2, 3, 4, 5 -> call("row" + two, () -> digests.row(a, b), BOTH);
            case 6 -> call("edition" + two, () -> digests.edition(a, b), BOTH);
            case 7 -> call("allow()", digests::allow, BOTH);
            case 8 -> call("salt()", digests::salt, ARGUMENT);
            case 9 -> call("rows(" + a + ")", () -> digests.rows(a), NOTHING);
            case 10 -> call("kind" + two, () -> digests.kind(a, b), NOTHING);
            case 11 -> call("size(" + a + ")", () -> digests.size(a), NOTHING);
            case 12 -> call("character" + two, () -> digests.character(a, b), NOTHING);
            case 13 -> call("digest" + two, () -> digests.digest(a, b), NOTHING);
            case 14 -> call("differ" + two, () -> digests.differ(a, b), NOTHING);
            case 15 -> call("constant(" + a + ")", () -> digests.constant(a), NOTHING);
            default -> {
                char c = character();
                call("type(" + (int) c + ")", () -> digests.type(c), NOTHING);
            }
        }
    }

    public static void main(String[] args) {
        Check check = new Check();
        for (int object = 0; object < OBJECTS && check.wrong() < 20; object++) {
            AnyCallsTest test = new AnyCallsTest(check, object);
            for (int i = 0; i < CALLS && check.wrong() < 20; i++) {
                test.next();
            }
        }
        check.end();
    }
}
