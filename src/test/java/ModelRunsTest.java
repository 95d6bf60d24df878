/** Long runs of mixed calls, each answer held against the model's. */
public final class ModelRunsTest {
    private static final int RUNS = 3000;
    private static final String[] TEXTS = {
        "", "a", "b", "ab", "A", "a/b", "a.", "a-", "aa", "a0", "a=", "a=1", "b=", "A=", "aa=", "a_=",
        "a/b/c", "a_b", ".a", "a/..b", "...", "-", ".", "..", "a/..", "./a", "a//b", "/a", "a/", "a b", "a=2", "ab=x", "a0=y", "a_=z",
        "A=a=b", "=a", "0a=1", "_a=1", "a.b=1", "Z9=~ !", "cc", "-o", "x0123456789abcdef", "x0123456789abcde",
        "x0123456789abcdef=1", "x0123456789abcde=1", "n=0123456789012345678901234567890123456789",
        "n=01234567890123456789012345678901234567890", "p/23456789012345678901234567890123456789",
        "p/234567890123456789012345678901234567890"
    };

    private final Check check;
    private long state;
    private int texts = TEXTS.length;

    private ModelRunsTest(Check check, long seed) {
        this.check = check;
        this.state = seed;
    }

    // A generator of our own: the runs are the same on every machine and at every time.
    private int below(int bound) {
        state = state * 6364136223846793005L + 1442695040888963407L;
        return (int) ((state >>> 33) % bound);
    }

    private int number(int bound) {
        int[] odd = {-1, bound, bound + 1, Integer.MIN_VALUE, Integer.MAX_VALUE};
        return below(12) == 0 ? odd[below(odd.length)] : below(bound);
    }

    private void run(int run) {
        Subject subject = new Subject();
        Model model = new Model();
        int most = 1 + below(3) * below(7);
        // Short texts leave calls for many rows, and so for actions that are full.
        texts = below(2) == 0 ? TEXTS.length : 16;
        for (int i = below(3); i < most; i++) {
            check.due("run " + run + ": action()", subject.action(), model.action());
        }
        while (subject.callsLeft() > 50) {
            call("run " + run + ", call " + (512 - subject.callsLeft()) + ": ", subject, model, most);
        }
    }

    private void type(String where, Subject subject, Model model) {
        String text = TEXTS[below(texts)];
        int from = below(20) == 0 ? 1 : 0;
        for (int i = from; i < text.length(); i++) {
            char c = below(200) == 0 ? (char) below(300) : text.charAt(i);
            check.due(where + "type(" + (int) c + ")", subject.type(c), model.type(c));
        }
    }

    private void call(String where, Subject subject, Model model, int actions) {
        int a = number(actions);
        int b = number(actions);
        switch (below(20)) {
            case 0 -> check.due(where + "action()", subject.action(), model.action());
            case 1 -> {
                type(where, subject, model);
                subject.hold();
                model.hold();
            }
            case 2 -> {
                type(where, subject, model);
                check.due(where + "allow()", subject.allow(), model.allow());
            }
            case 3 -> {
                type(where, subject, model);
                check.due(where + "salt()", subject.salt(), model.salt());
            }
            case 4 -> {
                int n = below(2) == 0 ? number(100000000) : below(3);
                check.due(where + "edition(" + a + ", " + n + ")", subject.edition(a, n), model.edition(a, n));
            }
            case 5, 6, 7, 8, 9, 10, 11 -> {
                int kind = number(7);
                type(where, subject, model);
                check.due(where + "row(" + a + ", " + kind + ")", subject.row(a, kind), model.row(a, kind));
            }
            case 12 -> check.due(where + "rows(" + a + ")", subject.rows(a), model.rows(a));
            case 13 -> {
                int k = number(Math.max(1, model.rows(a)));
                check.due(where + "kind(" + a + ", " + k + ")", subject.kind(a, k), model.kind(a, k));
            }
            case 14 -> check.due(where + "size(" + a + ")", subject.size(a), model.size(a));
            case 15, 16 -> {
                int k = number(Math.max(1, model.size(a)));
                check.due(where + "character(" + a + ", " + k + ")", subject.character(a, k), model.character(a, k));
            }
            case 17 -> {
                int part = number(8);
                check.due(where + "digest(" + a + ", " + part + ")", subject.digest(a, part), model.digest(a, part));
            }
            default -> check.due(where + "differ(" + a + ", " + b + ")", subject.differ(a, b), model.differ(a, b));
        }
    }

    public static void main(String[] args) {
        Check check = new Check();
        for (int run = 0; run < RUNS && check.wrong() < 20; run++) {
            new ModelRunsTest(check, run).run(run);
        }
        check.end();
    }
}
