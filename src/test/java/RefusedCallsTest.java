import java.util.function.Consumer;
import java.util.function.Function;

/**
 * Calls that are refused, each for each of its reasons: the exception that the document names, TEXT
 * empty behind a call that takes it ("in any case") and as it was behind others, all else as before.
 */
public final class RefusedCallsTest extends Cases {
    private static final int SCRATCH = 1;
    private static final int FULL = 2;
    private static final int ACTIONS = 3;
    private static final int[] NO_ACTIONS = {-1, ACTIONS, 11, 12, Integer.MIN_VALUE, Integer.MAX_VALUE};

    /** Action 0 has a row of each kind, SCRATCH none, FULL 24; n is allowed and m isn't. */
    private static Subject prepared() {
        Subject x = new Subject().actions(ACTIONS);
        x.row(0, 0, "w");
        for (int kind : PATH_KINDS) {
            x.row(0, kind, "p");
        }
        for (int kind : NAME_KINDS) {
            x.row(0, kind, "n=1");
        }
        x.row(0, 2, "m=1");
        x.edition(0, 7);
        for (int i = 0; i < 24; i++) {
            x.row(FULL, 0);
        }
        x.allow("n");
        x.salt("s");
        x.text("abc").hold();
        return x;
    }

    /** Digests stand for all that an action's rows say, for the SALT and for the ALLOWED NAMES. */
    private static String state(Subject x) {
        StringBuilder state = new StringBuilder();
        for (int action = 0; action < ACTIONS; action++) {
            state.append(x.rows(action)).append(' ').append(x.size(action)).append(' ').append(x.digits(action)).append(' ');
        }
        return state.append(x.rows(ACTIONS)).toString();
    }

    private static String heldAndText(Subject x) {
        x.row(SCRATCH, 0);
        x.row(SCRATCH, 1, "i");
        return x.stable(SCRATCH);
    }

    private void refused(String call, Subject x, String text, Function<Subject, String> last, String answer) {
        String before = state(x);
        for (int again = 0; again < 2; again++) {
            due(call, last.apply(x.text(text)), answer);
        }
        due("the state behind " + call, state(x), before);
        due("HELD and TEXT behind " + call, heldAndText(x), "000" + stableRow(1, "i\0" + OF_ABC));
    }

    private void rowIsRefused(int action, int kind, String text, String answer) {
        refused("5: row(" + action + ", " + kind + ") by '" + text + "'", prepared(), text, x -> x.row(action, kind), answer);
    }

    /** "there is no such action or KIND". */
    private void rowsOfNoActionOrKind() {
        for (int action : NO_ACTIONS) {
            rowIsRefused(action, 0, "", ARGUMENT);
            rowIsRefused(action, 0, "word", ARGUMENT);
            rowIsRefused(action, 5, "q", ARGUMENT);
            rowIsRefused(action, 7, "q", ARGUMENT);
        }
        for (int kind : new int[] {-1, 7, 8, Integer.MIN_VALUE, Integer.MAX_VALUE}) {
            rowIsRefused(0, kind, "", ARGUMENT);
            rowIsRefused(0, kind, "q", ARGUMENT);
            rowIsRefused(0, kind, "q=1", ARGUMENT);
            rowIsRefused(SCRATCH, kind, "00000001", ARGUMENT);
        }
    }

    /** "or TEXT is no such one". */
    private void rowsByNoSuchText() {
        String[] noPaths = {
            "", "/", ".", "..", "/q", "q/", "q//q", "q/../q", "q q", "n=1", times(41, "q"), times(64, "q")
        };
        for (int kind : PATH_KINDS) {
            for (String text : noPaths) {
                rowIsRefused(0, kind, text, ARGUMENT);
            }
        }
        String[] noNames = {
            "", "=", "q", "=1", "0q=1", "_=1", "q.q=1", " q=1", "q/q", times(17, "q") + "=", "q=" + times(41, "v"),
            times(64, "q"), times(64, "=")
        };
        for (int kind : NAME_KINDS) {
            for (String text : noNames) {
                rowIsRefused(0, kind, text, ARGUMENT);
            }
        }
    }

    /** "the PATH or NAME is there for this KIND", or "there are 24 ROWS". */
    private void rowsThatAreThereOrTooMany() {
        for (int kind : PATH_KINDS) {
            rowIsRefused(0, kind, "p", STATE);
            rowIsRefused(FULL, kind, "p", STATE);
        }
        for (int kind : NAME_KINDS) {
            rowIsRefused(0, kind, "n=1", STATE);
            rowIsRefused(0, kind, "n=2", STATE);
            rowIsRefused(FULL, kind, "n=1", STATE);
        }
        rowIsRefused(0, 2, "m=2", STATE);
        rowIsRefused(FULL, 0, "", STATE);
        rowIsRefused(FULL, 0, times(64, "w"), STATE);
    }

    /** The first reason that the document lists: what is no row at all is so of a full action too. */
    private void rowsForTwoReasons() {
        rowIsRefused(FULL, 1, "/", ARGUMENT);
        rowIsRefused(FULL, 2, "q", ARGUMENT);
        rowIsRefused(FULL, 7, "q", ARGUMENT);
        rowIsRefused(FULL, -1, "", ARGUMENT);
    }

    private void allowIsRefused(String text, Consumer<Subject> more, String answer) {
        Subject x = prepared();
        more.accept(x);
        refused("7: allow() by '" + text + "'", x, text, Subject::allow, answer);
        x.row(SCRATCH, 2, "q=1");
        due("7: the names behind a refused one", x.rows(SCRATCH), 2);
    }

    /** "it is no NAME", "it is so, or there are 8". */
    private void names() {
        for (String text : new String[] {"", "0", "_", "q=", "q=1", "q q", "q.", " q", "q ", times(17, "q"), times(64, "q")}) {
            allowIsRefused(text, x -> { }, ARGUMENT);
        }
        allowIsRefused("n", x -> { }, STATE);
        Consumer<Subject> sevenMore = x -> {
            for (int i = 0; i < 7; i++) {
                x.allow("q" + i);
            }
        };
        allowIsRefused("n", sevenMore, STATE);
        allowIsRefused("q6", sevenMore, STATE);
        allowIsRefused("q", sevenMore, STATE);
        allowIsRefused("m", sevenMore, STATE);
        allowIsRefused(times(16, "q"), sevenMore, STATE);
        allowIsRefused("", sevenMore, ARGUMENT);
        allowIsRefused(times(17, "q"), sevenMore, ARGUMENT);
    }

    /** "it has more than 16 characters". */
    private void salts() {
        for (int length : new int[] {17, 18, 32, 63, 64}) {
            refused("8: salt() of " + length, prepared(), times(length, "t"), Subject::salt, ARGUMENT);
        }
    }

    private void textIsKept(String call, Function<Subject, String> last, String answer, Subject x) {
        x.text("ab");
        String before = state(x);
        due(call, last.apply(x), answer);
        due("the state behind " + call, state(x), before);
        x.text("c").row(SCRATCH, 0);
        due("TEXT behind " + call, x.stable(SCRATCH), "003abc");
    }

    /** "there is no such action or number", "it has none, and there are 24 ROWS": it takes no TEXT. */
    private void editions() {
        for (int action : NO_ACTIONS) {
            textIsKept("6: edition(" + action + ", 1)", x -> x.edition(action, 1), ARGUMENT, prepared());
            textIsKept("6: edition(" + action + ", -1)", x -> x.edition(action, -1), ARGUMENT, prepared());
        }
        for (int number : new int[] {-1, 100000000, Integer.MIN_VALUE, Integer.MAX_VALUE}) {
            for (int action = 0; action < ACTIONS; action++) {
                int of = action;
                textIsKept("6: edition(" + of + ", " + number + ")", x -> x.edition(of, number), ARGUMENT, prepared());
            }
        }
        for (int number : new int[] {0, 7, 99999999}) {
            textIsKept("6: edition of 24 rows", x -> x.edition(FULL, number), STATE, prepared());
        }
    }

    /** "there are 12": it takes no TEXT. */
    private void actions() {
        Subject x = prepared().actions(9);
        textIsKept("3: a 13th action", Subject::action, STATE, x);
        due("3: and once more", x.action(), STATE);
        due("9: rows(11)", x.rows(11), 0);
        due("9: rows(12)", x.rows(12), -1);
    }

    /** A call that isn't refused empties TEXT too; the next text begins anew. */
    private void takenTexts() {
        Subject x = one();
        x.text(times(64, "h")).hold();
        x.row(0, 0);
        x.text(times(16, "s")).salt();
        x.row(0, 0);
        x.text(times(16, "n")).allow();
        x.row(0, 0);
        x.row(0, 0, times(64, "w"));
        x.row(0, 0);
        x.row(0, 5, "p");
        x.row(0, 0);
        x.row(0, 6, "n=1");
        x.row(0, 0);
        due("TEXT behind calls that take it", x.stable(0), times(3, "000") + stableRow(0, times(64, "w"))
            + times(3, "000") + "501p" + "603n=1");
    }

    /** Calls that only answer leave TEXT and all else as it was, whatever they are asked. */
    private void answersChangeNothing() {
        for (int number : new int[] {-1, 0, 1, FULL, ACTIONS, Integer.MIN_VALUE, Integer.MAX_VALUE}) {
            textIsKept("9 .. 15 of " + number, x -> {
                x.rows(number);
                x.kind(number, number);
                x.size(number);
                x.character(number, number);
                x.digest(number, number);
                x.differ(number, 0);
                x.constant(number);
                x.type((char) 31);
                return FINE;
            }, FINE, prepared());
        }
    }

    public static void main(String[] args) {
        RefusedCallsTest test = new RefusedCallsTest();
        test.rowsOfNoActionOrKind();
        test.rowsByNoSuchText();
        test.rowsThatAreThereOrTooMany();
        test.rowsForTwoReasons();
        test.names();
        test.salts();
        test.editions();
        test.actions();
        test.takenTexts();
        test.answersChangeNothing();
        test.check.end();
    }
}
