/** What is answered at the ends: of no action, no row, the first, the last, and what lies beside them. */
public final class AnswerBoundariesTest extends Cases {
    private static final int LEAST = Integer.MIN_VALUE;
    private static final int MOST = Integer.MAX_VALUE;

    /** "NONE if there is none such" and "0 if there is none such action": of no, one and all actions. */
    private void noSuchAction() {
        for (int count : new int[] {0, 1, 12}) {
            Subject x = new Subject().actions(count);
            for (int i = 0; i < count; i++) {
                x.row(i, 0, "w");
            }
            for (int wrong : new int[] {LEAST, LEAST + 1, -13, -12, -2, -1, count, count + 1, 12, 13, 256, 65536, MOST}) {
                String of = "(" + wrong + ") of " + count;
                due("9: rows" + of, x.rows(wrong), -1);
                due("10: kind" + of, x.kind(wrong, 0), -1);
                due("11: size" + of, x.size(wrong), -1);
                due("12: character" + of, x.character(wrong, 0), -1);
                due("13: digest" + of, x.digest(wrong, 0), 0);
                due("13: the last part of digest" + of, x.digest(wrong, 7), 0);
                due("14: differ" + of + " and itself", x.differ(wrong, wrong), -1);
                due("14: differ" + of + " and 0", x.differ(wrong, 0), -1);
                due("14: differ of 0 and" + of, x.differ(0, wrong), -1);
            }
            for (int i = 0; i < count; i++) {
                due("9: rows(" + i + ") of " + count, x.rows(i), 1);
                due("10: kind(" + i + ", 0) of " + count, x.kind(i, 0), 0);
                due("11: size(" + i + ") of " + count, x.size(i), 4);
                due("12: character(" + i + ", 3) of " + count, x.character(i, 3), (int) 'w');
                due("13: digest(" + i + ") of " + count, x.digits(i), Model.sha256("001w"));
            }
        }
    }

    private void noRow() {
        Subject x = two();
        x.row(0, 2, "a=1");
        x.row(0, 2, "b=1");
        for (int action = 0; action <= 1; action++) {
            due("9: rows of none", x.rows(action), 0);
            due("11: size of none", x.size(action), 0);
            due("13: digest of none", x.digits(action), OF_NONE);
            for (int k : new int[] {LEAST, -1, 0, 1, 23, 24, MOST}) {
                due("10: kind(" + action + ", " + k + ") of none", x.kind(action, k), -1);
                due("12: character(" + action + ", " + k + ") of none", x.character(action, k), -1);
            }
        }
        due("14: of none and none", x.differ(0, 1), -1);
        due("14: of none and itself", x.differ(0, 0), -1);
    }

    /** "The KIND of the k-th ROW in order, of those that count": with 1 to 24 of them. */
    private void kinds() {
        for (int count = 1; count <= 24; count++) {
            Subject x = one();
            for (int i = 1; i < count; i++) {
                x.row(0, 0);
            }
            x.edition(0, 1);
            due("9: rows", x.rows(0), count);
            for (int k = 0; k < count; k++) {
                due("10: kind(0, " + k + ") of " + count, x.kind(0, k), k == count - 1 ? 7 : 0);
            }
            for (int k : new int[] {LEAST, LEAST + 1, -24, -1, count, count + 1, 24, 25, MOST}) {
                due("10: kind(0, " + k + ") of " + count, x.kind(0, k), -1);
            }
        }
    }

    /** Rows that do not count have no place: before, between and behind those that do. */
    private void kindsBesideThoseThatDoNotCount() {
        Subject x = one();
        for (String name : new String[] {"a", "b", "c", "d", "e"}) {
            x.row(0, 2, name + "=");
        }
        x.row(0, 1, "p");
        x.row(0, 4, "n=");
        due("10: none of five", x.kinds(0), "14");
        x.allow("c");
        due("10: the middle of five", x.kinds(0), "124");
        x.allow("a");
        due("10: the first and the middle", x.kinds(0), "1224");
        x.allow("e");
        due("10: with the last", x.kinds(0), "12224");
        due("10: behind them", x.kind(0, 5), -1);
        due("12: all", x.stable(0), stableRow(1, "p\0" + OF_NONE) + "202a=202c=202e=402n=");
    }

    /** "A character of it": the ends of every row, and what lies beside the text. */
    private void characters() {
        Subject x = one();
        String[] rows = {
            stableRow(0, ""), stableRow(0, "w"), stableRow(1, "p\0" + OF_NONE), stableRow(4, "n="), stableRow(7, "00000009")
        };
        x.row(0, 0);
        x.row(0, 0, "w");
        x.row(0, 1, "p");
        x.row(0, 4, "n=");
        x.edition(0, 9);
        int start = 0;
        for (String row : rows) {
            due("12: the first of a row", x.character(0, start), (int) row.charAt(0));
            due("12: the second of a row", x.character(0, start + 1), (int) row.charAt(1));
            due("12: the third of a row", x.character(0, start + 2), (int) row.charAt(2));
            start += row.length();
            due("12: the last of a row", x.character(0, start - 1), (int) row.charAt(row.length() - 1));
        }
        due("11: size", x.size(0), start);
        due("12: the whole", x.stable(0), String.join("", rows));
        for (int k : new int[] {LEAST, LEAST + 1, -start, -3, -2, -1, start, start + 1, start + 2, start + 3, MOST - 1, MOST}) {
            due("12: character(0, " + k + ")", x.character(0, k), -1);
        }
    }

    /** The length's two digits, at each length that a row of paths or names can have. */
    private void lengths() {
        for (int length = 1; length <= 40; length++) {
            String path = times(length, "p");
            for (int kind : PATH_KINDS) {
                Subject x = one();
                x.row(0, kind, path);
                String body = kind == 5 ? path : path + "\0" + OF_NONE;
                due("11: size with a path of " + length, x.size(0), 3 + body.length());
                due("12: its greater digit", x.character(0, 1), 48 + body.length() / 64);
                due("12: its other digit", x.character(0, 2), 48 + body.length() % 64);
                due("12: its last character", x.character(0, 2 + body.length()), (int) body.charAt(body.length() - 1));
                due("12: behind it", x.character(0, 3 + body.length()), -1);
            }
        }
    }

    /** As many characters as 512 calls can tell. */
    private void longestText() {
        Subject x = one();
        StringBuilder stable = new StringBuilder();
        for (int i = 0; i < 24; i++) {
            String path = times(17, "p") + (char) ('a' + i);
            x.row(0, 3, path);
            stable.append(stableRow(3, path + "\0" + OF_NONE));
        }
        due("11: size", x.size(0), 24 * 86);
        due("12: the last character", x.character(0, 24 * 86 - 1), (int) '5');
        due("12: behind it", x.character(0, 24 * 86), -1);
        due("13: digest", x.digits(0), Model.sha256(stable.toString()));
    }

    /** "H(part)", "0 if there is none such .. part (0 .. 7)". */
    private void parts() {
        Subject x = one();
        x.row(0, 0, "w");
        String digits = Model.sha256("001w");
        for (int part = 0; part <= 7; part++) {
            int want = Integer.parseUnsignedInt(digits.substring(8 * part, 8 * part + 8), 16);
            due("13: digest(0, " + part + ")", x.digest(0, part), want);
        }
        for (int part : new int[] {LEAST, LEAST + 7, -8, -2, -1, 8, 9, 15, 16, 64, 256, MOST}) {
            due("13: digest(0, " + part + ")", x.digest(0, part), 0);
        }
    }

    /** "as few of 0 as make the whole .. a multiple of 64": all lengths round the ends of two blocks. */
    private void paddedLengths() {
        for (String salt : new String[] {"", "s", times(16, "s")}) {
            for (int length = 0; length <= 64; length++) {
                Subject x = one();
                x.salt(salt);
                x.row(0, 0, times(length, "w"));
                String stable = salt + stableRow(0, times(length, "w"));
                due("13: of " + stable.length() + " bytes", x.digits(0), Model.sha256(stable));
                x.row(0, 0, times(62, "v"));
                stable += stableRow(0, times(62, "v"));
                due("13: of " + stable.length() + " bytes", x.digits(0), Model.sha256(stable));
            }
        }
    }

    /** "The place of the first ROW .. in which two actions differ": each place of 24. */
    private void placesThatDiffer() {
        for (int place = 0; place < 24; place++) {
            Subject x = two();
            for (int k = 0; k < 24; k++) {
                x.row(0, 0);
                x.row(1, 0, k < place ? "" : "w");
            }
            due("14: differ at " + place, x.differ(0, 1), place);
            due("14: differ at " + place + ", turned round", x.differ(1, 0), place);
            due("14: of one and itself", x.differ(1, 1), -1);
        }
    }

    /** "or that one of both hasn't": one has 0 to 24 rows, and the other those and more, or the same. */
    private void placesThatOneHasNot() {
        for (int fewer = 0; fewer <= 24; fewer++) {
            for (int more : new int[] {fewer, fewer + 1, 24}) {
                if (more <= 24) {
                    Subject x = two();
                    for (int k = 0; k < more; k++) {
                        x.row(0, 0);
                        if (k < fewer) {
                            x.row(1, 0);
                        }
                    }
                    int want = fewer == more ? -1 : fewer;
                    due("14: " + more + " rows and " + fewer, x.differ(0, 1), want);
                    due("14: " + fewer + " rows and " + more, x.differ(1, 0), want);
                }
            }
        }
    }

    /** An ENV that isn't ALLOWED has no place, and is none that one of both hasn't. */
    private void placesBesideThoseThatDoNotCount() {
        Subject x = two();
        x.row(0, 0, "w");
        x.row(1, 0, "w");
        for (String name : new String[] {"a", "b", "c"}) {
            x.row(0, 2, name + "=1");
        }
        x.row(1, 2, "b=2");
        due("14: beside four that don't count", x.differ(0, 1), -1);
        x.row(0, 6, "s=1");
        x.row(1, 6, "s=2");
        due("14: behind four that don't count", x.differ(0, 1), 1);
        due("14: behind four that don't count, turned round", x.differ(1, 0), 1);
        x.row(1, 2, "c=1");
        x.allow("c");
        due("14: behind one that counts in both", x.differ(0, 1), 2);
        x.allow("b");
        due("14: one that is another thing in both", x.differ(0, 1), 1);
        x.allow("a");
        due("14: one that one of both hasn't", x.differ(1, 0), 1);
    }

    /** "in KIND, PATH, NAME, WORD, digest, or anything": the least that can differ, in the last place. */
    private void leastDifferences() {
        String[][] pairs = {
            {"0", times(63, "w"), times(64, "w")}, {"0", times(63, "w") + "a", times(63, "w") + "b"}, {"0", "", " "},
            {"0", "a" + times(63, "w"), "b" + times(63, "w")}, {"5", "a" + times(39, "p"), "b" + times(39, "p")},
            {"1", times(39, "p") + "a", times(39, "p") + "b"}, {"3", times(39, "p"), times(40, "p")}, {"5", "p/p", "p.p"},
            {"2", "n=" + times(39, "v") + "a", "n=" + times(39, "v") + "b"}, {"4", "n=" + times(39, "v"), "n=" + times(40, "v")},
            {"6", times(15, "n") + "a=", times(15, "n") + "b="}, {"6", "n==", "n="}, {"4", "n=", "nn="}
        };
        for (String[] pair : pairs) {
            int kind = Integer.parseInt(pair[0]);
            Subject x = two();
            x.allow("n");
            x.row(0, 0, "same");
            x.row(1, 0, "same");
            x.row(0, kind, pair[1]);
            x.row(1, kind, pair[2]);
            due("14: " + String.join(" ", pair), x.differ(0, 1), 1);
            due("14: turned round " + String.join(" ", pair), x.differ(1, 0), 1);
        }
        Subject y = two();
        y.row(0, 1, "p");
        y.text(" ").hold();
        y.row(1, 1, "p");
        due("14: contents of none and of one", y.differ(0, 1), 0);
        Subject z = two();
        z.edition(0, 99999998);
        z.edition(1, 99999999);
        due("14: editions", z.differ(0, 1), 0);
        z.edition(0, 99999999);
        due("14: the same edition", z.differ(0, 1), -1);
    }

    /** "K(t) (t 0 .. 63), or H(t - 64) .. (t 64 .. 71); 0 for others". */
    private void constants() {
        Subject x = new Subject();
        due("15: constant(0)", x.constant(0), 0x428a2f98);
        due("15: constant(1)", x.constant(1), 0x71374491);
        due("15: constant(62)", x.constant(62), 0xbef9a3f7);
        due("15: constant(63)", x.constant(63), 0xc67178f2);
        due("15: constant(64)", x.constant(64), 0x6a09e667);
        due("15: constant(65)", x.constant(65), 0xbb67ae85);
        due("15: constant(70)", x.constant(70), 0x1f83d9ab);
        due("15: constant(71)", x.constant(71), 0x5be0cd19);
        int[] others = {
            LEAST, LEAST + 63, LEAST + 64, -72, -65, -64, -63, -2, -1, 72, 73, 79, 127, 128, 135, 256, MOST - 1, MOST
        };
        for (int t : others) {
            due("15: constant(" + t + ")", x.constant(t), 0);
        }
    }

    /** "at most 512 calls": the last of them is answered as the first is. */
    private void lastCalls() {
        Subject x = two();
        x.row(0, 0, "w");
        while (x.callsLeft() > 14) {
            x.type('a');
        }
        due("5: a row by a full text", x.row(1, 0), FINE);
        due("3: action()", x.action(), "2");
        due("14: differ(0, 1)", x.differ(0, 1), 0);
        due("9: rows(1)", x.rows(1), 1);
        due("11: size(1)", x.size(1), 67);
        due("6: edition(2, 100000000)", x.edition(2, 100000000), ARGUMENT);
        due("13: digest(1)", x.digits(1), Model.sha256(stableRow(0, times(64, "a"))));
        due("calls left", x.callsLeft(), 0);
    }

    public static void main(String[] args) {
        AnswerBoundariesTest test = new AnswerBoundariesTest();
        test.noSuchAction();
        test.noRow();
        test.kinds();
        test.kindsBesideThoseThatDoNotCount();
        test.characters();
        test.lengths();
        test.longestText();
        test.parts();
        test.paddedLengths();
        test.placesThatDiffer();
        test.placesThatOneHasNot();
        test.placesBesideThoseThatDoNotCount();
        test.leastDifferences();
        test.constants();
        test.lastCalls();
        test.check.end();
    }
}
