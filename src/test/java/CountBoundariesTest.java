/** How many ACTIONS, ROWS, EDITIONS and ALLOWED NAMES there may be: none, the last one, one too many. */
public final class CountBoundariesTest extends Cases {
    private static String letter(int i) {
        return String.valueOf((char) ('a' + i));
    }

    /** The i-th of some texts that are right for a kind; 0 .. 24 are all different. */
    private static String textFor(int kind, int i) {
        return kind == 0 || kind % 2 == 1 ? letter(i) : letter(i) + "=";
    }

    private static String bodyFor(int kind, int i) {
        return kind == 1 || kind == 3 ? letter(i) + "\0" + OF_NONE : textFor(kind, i);
    }

    private static Subject withWords(int count) {
        Subject x = one();
        for (int i = 0; i < count; i++) {
            x.row(0, 0);
        }
        return x;
    }

    /** "No actions, allowed names, salt, texts." */
    private void noAction() {
        Subject x = new Subject();
        for (int kind = 0; kind <= 6; kind++) {
            due("5: row(0, " + kind + ") of no action", x.row(0, kind, textFor(kind, 0)), ARGUMENT);
        }
        due("6: edition(0, 0) of no action", x.edition(0, 0), ARGUMENT);
        due("9: rows(0) of no action", x.rows(0), -1);
        due("3: the first action behind them", x.action(), "0");
        due("9: its rows", x.rows(0), 0);
        due("5: a row by the text that is left", x.row(0, 0), FINE);
        due("12: none is left", x.stable(0), "000");
    }

    /** "at most 12, numbered from 0": each is there from its call on, and the 13th is refused. */
    private void allActions() {
        Subject x = new Subject();
        for (int i = 0; i < 12; i++) {
            due("5: row(" + i + ", 0) before it", x.row(i, 0), ARGUMENT);
            due("6: edition(" + i + ", 1) before it", x.edition(i, 1), ARGUMENT);
            due("3: action()", x.action(), String.valueOf(i));
            due("6: edition(" + i + ", " + i + ")", x.edition(i, i), FINE);
        }
        for (int again = 0; again < 3; again++) {
            due("3: a 13th action", x.action(), STATE);
        }
        due("5: row(12, 0)", x.row(12, 0), ARGUMENT);
        due("6: edition(12, 1)", x.edition(12, 1), ARGUMENT);
        for (int i = 0; i < 12; i++) {
            due("3: the text of action " + i, x.stable(i), stableRow(7, String.format("%08d", i)));
        }
    }

    /** "at most 24 each": 24 ROWS of each KIND, each action for itself. */
    private void allRowsOfAKind() {
        for (int kind = 0; kind <= 6; kind++) {
            Subject x = two();
            for (int i = 0; i < 24; i++) {
                due("5: row(0, " + kind + "), " + i + " are there", x.row(0, kind, textFor(kind, i)), FINE);
            }
            for (int another = 0; another <= 6; another++) {
                due("5: row(0, " + another + "), 24 are there", x.row(0, another, textFor(another, 24)), STATE);
            }
            due("6: edition(0, 1), 24 are there", x.edition(0, 1), STATE);
            due("9: rows of 24", x.rows(0), kind == 2 ? 0 : 24);
            due("9: rows of the other", x.rows(1), 0);
            due("5: a row of the other", x.row(1, kind, textFor(kind, 0)), FINE);
        }
    }

    /** All ROWS in order, whatever the order in which they came. */
    private void allRowsInOrder() {
        for (int kind = 1; kind <= 6; kind++) {
            for (int step : new int[] {1, 5, 7, 11, 23}) {
                Subject x = one();
                StringBuilder stable = new StringBuilder();
                for (int i = 0; i < 24; i++) {
                    x.row(0, kind, textFor(kind, (i + 1) * step % 24));
                    if (kind != 2 || i < 8) {
                        stable.append(stableRow(kind, bodyFor(kind, i)));
                    }
                }
                for (int i = 0; i < 8; i++) {
                    x.allow(letter(i));
                }
                due("order of 24 of kind " + kind, x.digits(0), Model.sha256(stable.toString()));
                due("size of 24 of kind " + kind, x.size(0), stable.length());
            }
        }
    }

    private void allRowsOfAllActions() {
        Subject x = new Subject().actions(12);
        for (int action = 0; action < 12; action++) {
            for (int i = 0; i < 24; i++) {
                x.row(action, 0);
            }
        }
        for (int action = 0; action < 12; action++) {
            due("5: a 25th row of action " + action, x.row(action, 0), STATE);
            due("9: rows of action " + action, x.rows(action), 24);
            due("11: size of action " + action, x.size(action), 72);
            due("13: digest of action " + action, x.digits(action), Model.sha256(times(24, "000")));
            due("14: of it and the last", x.differ(action, 11), -1);
        }
    }

    /** An ENV that isn't ALLOWED is a ROW too, and stays one when it is. */
    private void rowsThatDoNotCount() {
        Subject x = one();
        for (int i = 0; i < 23; i++) {
            x.row(0, 2, letter(i) + "=");
        }
        due("5: a 24th behind 23 that don't count", x.row(0, 0, "w"), FINE);
        due("5: a 25th behind 23 that don't count", x.row(0, 0, "v"), STATE);
        due("9: one counts", x.rows(0), 1);
        for (int i = 0; i < 8; i++) {
            due("7: allow()", x.allow(letter(22 - i)), FINE);
            due("9: one more counts", x.rows(0), 2 + i);
        }
        due("5: a 25th behind some that count now", x.row(0, 0, "v"), STATE);
        due("10: the first is the word", x.kind(0, 0), 0);
        due("10: the last is an ENV", x.kind(0, 8), 2);
        due("10: there is none behind it", x.kind(0, 9), -1);
        due("11: size", x.size(0), 4 + 8 * 5);
    }

    /** "EDITION: a number, at most one", and "it has none, and there are 24 ROWS". */
    private void editions() {
        Subject x = withWords(23);
        due("6: edition, 23 are there", x.edition(0, 5), FINE);
        due("5: a row, 23 and the edition are there", x.row(0, 0), STATE);
        due("6: another edition, 24 are there", x.edition(0, 6), FINE);
        due("9: rows", x.rows(0), 24);
        due("10: the 24th", x.kind(0, 23), 7);
        due("13: digest", x.digits(0), Model.sha256(times(23, "000") + "70800000006"));
        Subject y = withWords(24);
        due("6: edition, 24 are there", y.edition(0, 5), STATE);
        due("6: again", y.edition(0, 5), STATE);
        due("9: rows", y.rows(0), 24);
        due("13: digest", y.digits(0), Model.sha256(times(24, "000")));
        Subject z = two();
        for (int i = 0; i < 100; i++) {
            due("6: edition(0, " + i + ")", z.edition(0, i), FINE);
        }
        due("9: one row of many editions", z.rows(0), 1);
        due("12: the last of them", z.stable(0), "70800000099");
        due("9: rows of the other", z.rows(1), 0);
    }

    /** "a number (0 .. 99999999)", "in eight digits": round each number of digits, and both ends. */
    private void editionNumbers() {
        long power = 1;
        for (int digits = 0; digits <= 8; digits++) {
            for (long number = power - 1; number <= power + 1; number++) {
                edition((int) number);
            }
            power *= 10;
        }
        int[] more = {
            12345678, 90000000, 99999998, 1000000000, Integer.MAX_VALUE - 1, Integer.MAX_VALUE,
            -1, -2, -99999999, -100000000, Integer.MIN_VALUE, Integer.MIN_VALUE + 1
        };
        for (int number : more) {
            edition(number);
        }
    }

    private void edition(int number) {
        boolean right = number >= 0 && number <= 99999999;
        Subject x = one();
        due("6: edition(0, " + number + ")", x.edition(0, number), right ? FINE : ARGUMENT);
        due("12: edition(0, " + number + ")", x.stable(0), right ? "708" + String.format("%08d", number) : "");
        x.edition(0, 7);
        due("6: edition(0, " + number + ") behind another", x.edition(0, number), right ? FINE : ARGUMENT);
        due("12: the edition behind it", x.stable(0), "708" + String.format("%08d", right ? number : 7));
    }

    /** "each PATH or NAME is there once": to the last character, and for its KIND and action alone. */
    private void once() {
        for (int kind = 1; kind <= 6; kind++) {
            boolean path = kind % 2 == 1;
            int most = path ? 40 : 16;
            String end = path ? "" : "=";
            String[] keys = {
                times(most, "x"), times(most - 1, "x"), times(most - 1, "x") + "y", "y" + times(most - 1, "x"), "x", "X"
            };
            Subject x = two();
            for (String key : keys) {
                due("5: row(0, " + kind + ") by " + key, x.row(0, kind, key + end), FINE);
            }
            for (String key : new String[] {keys[0], keys[2], "x", "X"}) {
                due("5: again row(0, " + kind + ") by " + key, x.row(0, kind, key + end), STATE);
            }
            due("5: of the other action", x.row(1, kind, "x" + end), FINE);
            for (int another = 1; another <= 6; another++) {
                String text = another % 2 == 1 ? "x" : "x=";
                due("5: row(0, " + another + ") beside " + kind, x.row(0, another, text), another == kind ? STATE : FINE);
            }
        }
    }

    /** A NAME is there whatever it is, and whether it is ALLOWED or not. */
    private void onceWhateverItIs() {
        for (int kind : NAME_KINDS) {
            Subject x = one();
            due("5: a name", x.row(0, kind, "n=1"), FINE);
            for (String text : new String[] {"n=1", "n=", "n=2", "n==", "n=" + times(40, "v")}) {
                due("5: row(0, " + kind + ") by " + text, x.row(0, kind, text), STATE);
            }
            x.allow("n");
            due("5: behind allow()", x.row(0, kind, "n=2"), STATE);
            due("12: the first is there", x.stable(0), stableRow(kind, "n=1"));
        }
        for (int kind : new int[] {1, 3}) {
            Subject x = one();
            x.row(0, kind, "p");
            x.text("abc").hold();
            due("5: a path with another content", x.row(0, kind, "p"), STATE);
            due("12: the first content is there", x.stable(0), stableRow(kind, "p\0" + OF_NONE));
        }
    }

    /** "by characters; one that another begins with comes first": told both ways round. */
    private void order() {
        String[][] pairs = {
            {"a", "aa"}, {"a", "a0"}, {"A", "a"}, {"Z", "a"}, {"aZ", "a_"}, {"a_", "aa"}, {"a9", "aA"}, {"a0", "a1"},
            {"aaa", "b"}, {"aaaaaaaaaaaaaaa", "aaaaaaaaaaaaaaaa"}, {"aaaaaaaaaaaaaaaa", "aaaaaaaaaaaaaaab"}
        };
        for (String[] pair : pairs) {
            for (int kind = 1; kind <= 6; kind++) {
                inOrder(kind, pair[0], pair[1]);
            }
        }
        String[][] paths = {
            {"a-", "a."}, {"a.", "a/a"}, {"a/a", "a0"}, {"-", "0"}, {"a", "a/a"}, {times(39, "p"), times(40, "p")}
        };
        for (String[] pair : paths) {
            for (int kind : PATH_KINDS) {
                inOrder(kind, pair[0], pair[1]);
            }
        }
    }

    private void inOrder(int kind, String first, String second) {
        String end = kind % 2 == 1 ? "" : "=";
        String digest = kind == 1 || kind == 3 ? "\0" + OF_NONE : end;
        String stable = stableRow(kind, first + digest) + stableRow(kind, second + digest);
        for (int turned = 0; turned <= 1; turned++) {
            Subject x = one();
            if (kind == 2) {
                x.allow(first);
                x.allow(second);
            }
            x.row(0, kind, (turned == 0 ? first : second) + end);
            x.row(0, kind, (turned == 0 ? second : first) + end);
            due("order: " + first + " and " + second + " of kind " + kind, x.stable(0), stable);
        }
    }

    /** "at most 8 NAMES are": the eighth is allowed, the ninth refused and not allowed. */
    private void allAllowedNames() {
        Subject x = one();
        for (int i = 0; i < 10; i++) {
            x.row(0, 2, letter(i) + "=");
        }
        for (int i = 0; i < 8; i++) {
            due("9: rows, " + i + " are allowed", x.rows(0), i);
            due("7: allow(), " + i + " are allowed", x.allow(letter(i)), FINE);
            due("7: the same again", x.allow(letter(i)), STATE);
        }
        due("7: a ninth", x.allow("i"), STATE);
        due("7: a ninth again", x.allow("i"), STATE);
        due("7: another ninth", x.allow("j"), STATE);
        due("9: rows, 8 are allowed", x.rows(0), 8);
        due("10: the eighth", x.kind(0, 7), 2);
        due("10: a ninth", x.kind(0, 8), -1);
        due("12: all that count", x.stable(0), "202a=202b=202c=202d=202e=202f=202g=202h=");
    }

    /** Names of which one begins with the other, or that differ in the last character, are two. */
    private void allowedToTheLastCharacter() {
        String[] names = {times(16, "n"), times(15, "n"), times(15, "n") + "m", "m" + times(15, "n"), "N", "n"};
        for (String name : names) {
            Subject x = one();
            for (String each : names) {
                x.row(0, 2, each + "=");
            }
            x.allow(name);
            due("7: only " + name, x.stable(0), stableRow(2, name + "="));
        }
        Subject y = one();
        for (String name : names) {
            due("7: allow() by " + name, y.allow(name), FINE);
        }
    }

    public static void main(String[] args) {
        CountBoundariesTest test = new CountBoundariesTest();
        test.noAction();
        test.allActions();
        test.allRowsOfAKind();
        test.allRowsInOrder();
        test.allRowsOfAllActions();
        test.rowsThatDoNotCount();
        test.editions();
        test.editionNumbers();
        test.once();
        test.onceWhateverItIs();
        test.order();
        test.allAllowedNames();
        test.allowedToTheLastCharacter();
        test.check.end();
    }
}
