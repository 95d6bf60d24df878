import java.math.BigInteger;

/** The document's promises one by one: ordinary inputs, the edges that it names, wrong inputs. */
public final class PromisesTest extends Cases {
    private static final int[] WRONG = {-1, 1, 11, 12, Integer.MIN_VALUE, Integer.MAX_VALUE};

    private void newObject() {
        Subject x = new Subject();
        due("1: rows(0) of a new object", x.rows(0), -1);
        due("1: size(0) of a new object", x.size(0), -1);
        due("1: kind(0, 0) of a new object", x.kind(0, 0), -1);
        due("1: character(0, 0) of a new object", x.character(0, 0), -1);
        due("1: digest(0, 0) of a new object", x.digest(0, 0), 0);
        due("1: differ(0, 0) of a new object", x.differ(0, 0), -1);
        due("1: allow() without text", x.allow(), ARGUMENT);
        due("1: the first action", x.action(), "0");
        due("1: row(0, 0) without text", x.row(0, 0), FINE);
        due("1: the empty word", x.stable(0), "000");
        due("1: without salt", x.digits(0), Model.sha256("000"));
        Subject y = one();
        y.row(0, 2, "A=1");
        due("1: no name is allowed", y.rows(0), 0);
        due("1: a new action's digest", y.digits(0), OF_NONE);
        due("NONE", ActionDigests.NONE, -1);
    }

    private void type() {
        Subject x = one();
        for (int code : new int[] {0, 10, 31, 127, 128, 255, 256, 32 + 256, 'a' + 65536 / 2, 65535}) {
            due("2: type(" + code + ")", x.type((char) code), false);
        }
        due("2: type(32)", x.type(' '), true);
        due("2: type(126)", x.type('~'), true);
        x.row(0, 0);
        due("2: only what was taken is there", x.stable(0), "002 ~");
        for (int i = 0; i < 64; i++) {
            due("2: type, " + i + " are there", x.type((char) ('0' + i)), true);
        }
        due("2: type, 64 are there", x.type('x'), false);
        due("2: type again, 64 are there", x.type('x'), false);
        due("2: a wrong type, 64 are there", x.type('\n'), false);
        x.row(0, 0);
        due("2: size with 64 characters", x.size(0), 5 + 67);
        due("2: the last of 64", x.character(0, 71), (int) 'o');
        due("2: type into an emptied text", x.type('x'), true);
    }

    private void textIsEmptied() {
        Subject x = one();
        x.text("ab").hold();
        x.row(0, 0);
        due("text after hold", x.size(0), 3);
        x.text("A").allow();
        x.row(0, 0);
        due("text after allow", x.size(0), 6);
        x.text("A").allow();
        x.row(0, 0);
        due("text after a refused allow, allowed", x.size(0), 9);
        x.text("9").allow();
        x.row(0, 0);
        due("text after a refused allow, no name", x.size(0), 12);
        x.text("s").salt();
        x.row(0, 0);
        due("text after salt", x.size(0), 15);
        x.salt(times(17, "s"));
        x.row(0, 0);
        due("text after a refused salt", x.size(0), 18);
        x.row(1, 0, "no action");
        x.row(0, 0);
        due("text after row, no action", x.size(0), 21);
        x.row(0, 7, "no kind");
        x.row(0, 0);
        due("text after row, no kind", x.size(0), 24);
        x.row(0, 1, "//");
        x.row(0, 0);
        due("text after row, no path", x.size(0), 27);
        x.row(0, 5, "a");
        x.row(0, 5, "a");
        x.row(0, 0);
        due("text after row, there", x.size(0), 34);
    }

    private void textIsKept() {
        Subject x = new Subject();
        x.text("ab");
        x.action();
        x.edition(0, 1);
        x.edition(0, -1);
        x.edition(5, 1);
        x.type('\n');
        x.rows(0);
        x.kind(0, 0);
        x.size(0);
        x.character(0, 0);
        x.digest(0, 0);
        x.differ(0, 0);
        x.constant(0);
        x.text("c").row(0, 0);
        due("text that no call took", x.stable(0), "003abc70800000001");
        Subject y = new Subject().actions(12);
        y.text("ab").action();
        y.row(0, 0);
        due("text after a refused action", y.stable(0), "002ab");
    }

    private void action() {
        Subject x = new Subject();
        for (int i = 0; i < 12; i++) {
            due("3: rows before its action", x.rows(i), -1);
            due("3: action " + i, x.action(), String.valueOf(i));
            due("3: rows of a new action", x.rows(i), 0);
        }
        due("3: a 13th action", x.action(), STATE);
        due("3: a 14th action", x.action(), STATE);
        due("3: rows(12)", x.rows(12), -1);
        due("3: row(11, 0)", x.row(11, 0, "w"), FINE);
        due("3: rows(11)", x.rows(11), 1);
        due("3: rows(10)", x.rows(10), 0);
        due("3: rows(0)", x.rows(0), 0);
    }

    private void hold() {
        Subject x = one();
        x.row(0, 1, "a");
        x.text("abc").hold();
        x.row(0, 1, "b");
        x.row(0, 3, "c");
        due("4: held none, then abc", x.stable(0),
            "112a\0" + OF_NONE + "112b\0" + OF_ABC + "312c\0" + OF_ABC);
        Subject y = one();
        y.text("abc").hold();
        y.hold();
        y.row(0, 3, "c");
        due("4: held none again", y.stable(0), "312c\0" + OF_NONE);
        for (int length : new int[] {1, 54, 55, 56, 57, 63, 64}) {
            Subject z = one();
            z.text(times(length, "~")).hold();
            z.row(0, 1, "a");
            due("4: held " + length, z.stable(0), "112a\0" + Model.sha256(times(length, "~")));
        }
    }

    private void rowWrongActionsAndKinds() {
        for (int wrong : WRONG) {
            Subject x = one();
            due("5: row(" + wrong + ", 0)", x.row(wrong, 0, "a"), ARGUMENT);
            due("5: rows after it", x.rows(0), 0);
        }
        for (int wrong : new int[] {-1, 7, 8, Integer.MIN_VALUE, Integer.MAX_VALUE}) {
            Subject x = one();
            due("5: row(0, " + wrong + ")", x.row(0, wrong, "a"), ARGUMENT);
            due("5: row(0, " + wrong + ") without text", x.row(0, wrong), ARGUMENT);
            due("5: rows after it", x.rows(0), 0);
        }
        due("5: row before any action", new Subject().row(0, 0), ARGUMENT);
    }

    private void rowPaths() {
        String[] right = {
            "a", "Z", "0", "_", "-", "...", "....", ".a", "a.", "..a", "a..", "-.", "a/b", "a/.../b", "a.b/c_d/e-f",
            "a/..b", "0/1/2", times(40, "x"), times(19, "a/") + "bc"
        };
        String[] wrong = {
            "", "/", "//", ".", "..", "/a", "a/", "a//b", "./a", "../a", "a/.", "a/..", "a/./b", "a/../b", "a b", "a=b",
            "a\\b", "a~", "a@", "a[", "a`", "a{", "a:", "a,", "a+", times(41, "x"), times(64, "x")
        };
        for (int kind : new int[] {1, 3, 5}) {
            for (String path : right) {
                due("5: row(0, " + kind + ") by " + path, one().row(0, kind, path), FINE);
            }
            for (String path : wrong) {
                Subject x = one();
                due("5: row(0, " + kind + ") by " + path, x.row(0, kind, path), ARGUMENT);
                due("5: rows after it", x.rows(0), 0);
            }
        }
    }

    private void rowNames() {
        String[] right = {
            "a=", "Z=", "a=b", "a==", "a=b=c", "a_=", "a0=", "a9Z_=x", "a= ", "a=~!/.. ", times(16, "n") + "=",
            "a=" + times(40, "="), times(16, "n") + "=" + times(40, "v")
        };
        String[] wrong = {
            "", "a", "=", "=a", "0=", "_=", "_a=1", "9a=1", "a b=1", " a=1", "a =1", "a-b=1", "a.b=1", "a/b=1", "a@=", "a[=",
            "a`=", "a{=", "a:=", times(17, "n") + "=", times(17, "n"), "a=" + times(41, "v"), times(16, "n") + "=" + times(41, "v")
        };
        for (int kind : new int[] {2, 4, 6}) {
            for (String text : right) {
                due("5: row(0, " + kind + ") by " + text, one().row(0, kind, text), FINE);
            }
            for (String text : wrong) {
                Subject x = one();
                due("5: row(0, " + kind + ") by " + text, x.row(0, kind, text), ARGUMENT);
                x.allow("a");
                due("5: rows after it", x.rows(0), 0);
            }
        }
    }

    private void rowIsThere() {
        for (int kind : new int[] {1, 3, 5}) {
            Subject x = two();
            due("5: a path", x.row(0, kind, "a"), FINE);
            due("5: it is there", x.row(0, kind, "a"), STATE);
            due("5: one that it begins with", x.row(0, kind, "a/b"), FINE);
            due("5: the other case", x.row(0, kind, "A"), FINE);
            due("5: the same of another kind", x.row(0, kind == 1 ? 3 : 1, "a"), FINE);
            due("5: the same of another action", x.row(1, kind, "a"), FINE);
            due("5: rows", x.rows(0), 4);
        }
        for (int kind : new int[] {2, 4, 6}) {
            Subject x = two();
            due("5: a name", x.row(0, kind, "a=1"), FINE);
            due("5: it is there", x.row(0, kind, "a=2"), STATE);
            due("5: it is there, with nothing", x.row(0, kind, "a="), STATE);
            due("5: one that it begins with", x.row(0, kind, "ab=1"), FINE);
            due("5: the same of another kind", x.row(0, kind == 4 ? 6 : 4, "a=1"), FINE);
            due("5: the same of another action", x.row(1, kind, "a=1"), FINE);
        }
        Subject x = one();
        x.text("other").hold();
        x.row(0, 1, "a");
        x.hold();
        due("5: a path with another content", x.row(0, 1, "a"), STATE);
        due("5: a word", x.row(0, 0, "a"), FINE);
        due("5: the same word", x.row(0, 0, "a"), FINE);
        due("5: rows", x.rows(0), 3);
    }

    private void rowsAreFull() {
        Subject x = two();
        for (int i = 0; i < 24; i++) {
            due("5: row " + i, x.row(0, 0, "w"), FINE);
        }
        due("5: a 25th word", x.row(0, 0, "w"), STATE);
        due("5: a 25th, a path", x.row(0, 1, "a"), STATE);
        due("5: a 25th, an ENV that counts for nothing", x.row(0, 2, "a=1"), STATE);
        due("5: a 25th that is no path", x.row(0, 1, "/"), ARGUMENT);
        due("5: a 25th of no kind", x.row(0, 7, "a"), ARGUMENT);
        due("5: rows", x.rows(0), 24);
        due("5: size", x.size(0), 96);
        due("5: the other action", x.row(1, 0, "w"), FINE);
        Subject y = one();
        y.edition(0, 1);
        for (int i = 0; i < 12; i++) {
            due("5: a word", y.row(0, 0, "w"), FINE);
        }
        for (int i = 0; i < 11; i++) {
            due("5: an ENV", y.row(0, 2, (char) ('a' + i) + "=1"), FINE);
        }
        due("5: rows that count", y.rows(0), 13);
        due("5: an ENV and the edition are rows too", y.row(0, 0, "w"), STATE);
        due("5: rows that count", y.rows(0), 13);
    }

    private void edition() {
        Subject x = two();
        due("6: edition(0, 0)", x.edition(0, 0), FINE);
        due("6: its text", x.stable(0), "70800000000");
        due("6: edition(0, 99999999)", x.edition(0, 99999999), FINE);
        due("6: its text", x.stable(0), "70899999999");
        due("6: edition(0, 12345678)", x.edition(0, 12345678), FINE);
        due("6: its text", x.stable(0), "70812345678");
        for (int wrong : new int[] {-1, 100000000, Integer.MIN_VALUE, Integer.MAX_VALUE}) {
            due("6: edition(0, " + wrong + ")", x.edition(0, wrong), ARGUMENT);
        }
        for (int wrong : new int[] {-1, 2, 12, Integer.MIN_VALUE, Integer.MAX_VALUE}) {
            due("6: edition(" + wrong + ", 1)", x.edition(wrong, 1), ARGUMENT);
        }
        due("6: its text still", x.stable(0), "70812345678");
        due("6: rows", x.rows(0), 1);
        due("6: rows of the other", x.rows(1), 0);
    }

    private void editionOfFull() {
        Subject x = one();
        for (int i = 0; i < 23; i++) {
            x.row(0, 0);
        }
        due("6: edition as 24th", x.edition(0, 1), FINE);
        due("6: another, 24 are there", x.edition(0, 20), FINE);
        due("6: rows", x.rows(0), 24);
        due("6: its last digit but one", x.character(0, 78), (int) '2');
        Subject y = one();
        for (int i = 0; i < 24; i++) {
            y.row(0, 0);
        }
        due("6: edition as 25th", y.edition(0, 1), STATE);
        due("6: no such number as 25th", y.edition(0, -1), ARGUMENT);
        due("6: rows", y.rows(0), 24);
        due("6: the last is a word", y.kind(0, 23), 0);
        Subject z = one();
        for (int i = 0; i < 24; i++) {
            z.row(0, 2, (char) ('a' + i) + "=");
        }
        due("6: edition behind 24 that count for nothing", z.edition(0, 1), STATE);
    }

    private void allow() {
        Subject x = one();
        for (String wrong : new String[] {"", "0", "_a", "a b", "a=", "a=1", "a.b", "a-b", "a/b", " a", times(17, "n"), times(64, "n")}) {
            due("7: allow() by " + wrong, x.allow(wrong), ARGUMENT);
        }
        String[] names = {"a", "B", "a_", "a9Z_", times(16, "n"), "ab", "A", "b"};
        for (String name : names) {
            due("7: allow() by " + name, x.allow(name), FINE);
            due("7: again", x.allow(name), STATE);
        }
        due("7: a ninth", x.allow("c"), STATE);
        due("7: a ninth that is no name", x.allow("c c"), ARGUMENT);
        due("7: one that is so", x.allow("a"), STATE);
        for (String name : names) {
            x.row(0, 2, name + "=");
        }
        x.row(0, 2, "c=");
        due("7: rows", x.rows(0), 8);
    }

    private void allowCounts() {
        Subject x = two();
        x.row(0, 2, "b=2");
        x.row(0, 2, "a=1");
        x.row(0, 4, "a=4");
        x.row(0, 6, "b=6");
        due("7: PLATFORM and SETTING need no allowance", x.stable(0), "403a=4603b=6");
        x.allow("b");
        due("7: told before", x.stable(0), "203b=2403a=4603b=6");
        x.allow("a");
        due("7: both", x.stable(0), "203a=1203b=2403a=4603b=6");
        x.row(1, 2, "a=7");
        due("7: told after, of another action", x.stable(1), "203a=7");
        x.allow("abc");
        x.row(1, 2, "ab=1");
        x.row(1, 2, "abcd=1");
        x.row(1, 2, "ABC=1");
        due("7: names that are only alike", x.rows(1), 1);
    }

    private void salt() {
        Subject x = one();
        x.row(0, 0, "w");
        String stable = "001w";
        due("8: no salt", x.digits(0), Model.sha256(stable));
        due("8: salt", x.salt("own"), FINE);
        due("8: with it", x.digits(0), Model.sha256("own" + stable));
        due("8: 16 characters", x.salt("0123456789 =/~ab"), FINE);
        due("8: with it", x.digits(0), Model.sha256("0123456789 =/~ab" + stable));
        due("8: 17 characters", x.salt("0123456789abcdefg"), ARGUMENT);
        due("8: 64 characters", x.salt(times(64, "s")), ARGUMENT);
        due("8: as before", x.digits(0), Model.sha256("0123456789 =/~ab" + stable));
        due("8: it is no part of the text", x.stable(0), stable);
        due("8: of none", x.salt(), FINE);
        due("8: without it", x.digits(0), Model.sha256(stable));
        due("8: a new action's", x.salt("s") + x.action() + x.digits(1), "1" + Model.sha256("s"));
    }

    private void rowsAndKinds() {
        Subject x = new Subject().actions(1);
        for (int wrong : WRONG) {
            due("9: rows(" + wrong + ")", x.rows(wrong), -1);
            due("10: kind(" + wrong + ", 0)", x.kind(wrong, 0), -1);
        }
        due("10: kind(0, 0) of none", x.kind(0, 0), -1);
        x.edition(0, 3);
        x.row(0, 6, "a=");
        x.row(0, 5, "a");
        x.row(0, 4, "a=");
        x.row(0, 3, "a");
        x.row(0, 2, "a=");
        x.row(0, 1, "a");
        x.row(0, 0, "a");
        due("9: rows without the ENV", x.rows(0), 7);
        due("10: kinds without the ENV", x.kinds(0), "0134567");
        x.allow("a");
        due("9: rows with the ENV", x.rows(0), 8);
        due("10: kinds with the ENV", x.kinds(0), "01234567");
        for (int wrong : new int[] {-1, 8, 24, Integer.MIN_VALUE, Integer.MAX_VALUE}) {
            due("10: kind(0, " + wrong + ")", x.kind(0, wrong), -1);
        }
    }

    private void order() {
        Subject x = one();
        for (String word : new String[] {"b", "a", "b", ""}) {
            x.row(0, 0, word);
        }
        due("order of words", x.stable(0), "001b001a001b000");
        Subject y = one();
        for (String path : new String[] {"b", "a/b", "a", "a.b", "a-b", "a_b", "aa", "a0", "aB", "B", "_", "-", ".a", "0"}) {
            y.row(0, 5, path);
        }
        due("order of paths", y.stable(0),
            "501-502.a5010501B501_501a503a-b503a.b503a/b502a0502aB503a_b502aa501b");
        for (int kind : new int[] {2, 4, 6}) {
            Subject z = one();
            for (String name : new String[] {"b", "ab", "a", "a1", "a_", "aB", "B"}) {
                z.allow(name);
                z.row(0, kind, name + "=");
            }
            due("order of names", z.stable(0), "_02B=_02a=_03a1=_03aB=_03a_=_03ab=_02b=".replace("_0", kind + "0"));
        }
        Subject v = one();
        v.row(0, 6, "a=2");
        v.row(0, 6, "A=3");
        v.row(0, 6, "a0=1");
        due("order of names, not of what they are", v.stable(0), "603A=3603a=2604a0=1");
    }

    private void sizeAndCharacters() {
        Subject x = two();
        due("11: size of none", x.size(0), 0);
        due("12: character of none", x.character(0, 0), -1);
        x.text("abc").hold();
        x.row(0, 1, times(40, "p"));
        due("11: size", x.size(0), 108);
        due("12: its text", x.stable(0), "11" + (char) (48 + 41) + times(40, "p") + "\0" + OF_ABC);
        for (int wrong : new int[] {-1, 108, 109, Integer.MIN_VALUE, Integer.MAX_VALUE}) {
            due("12: character(0, " + wrong + ")", x.character(0, wrong), -1);
        }
        for (int wrong : new int[] {-1, 2, 12, Integer.MIN_VALUE, Integer.MAX_VALUE}) {
            due("11: size(" + wrong + ")", x.size(wrong), -1);
            due("12: character(" + wrong + ", 0)", x.character(wrong, 0), -1);
        }
        x.row(1, 0, times(63, "w"));
        due("12: the length's greater digit, 63", x.character(1, 1), 48);
        due("12: the length's other digit, 63", x.character(1, 2), 48 + 63);
        x.row(1, 0, times(64, "w"));
        due("11: size", x.size(1), 66 + 67);
        due("12: the length's greater digit, 64", x.character(1, 67), 49);
        due("12: the length's other digit, 64", x.character(1, 68), 48);
        x.row(0, 2, "n=1");
        due("11: an ENV that counts for nothing", x.size(0), 108);
        x.allow("n");
        due("11: and one that is allowed", x.size(0), 114);
        due("12: its last character", x.character(0, 113), (int) '1');
    }

    private void eachKindsText() {
        Subject x = one();
        x.allow("e");
        x.edition(0, 7);
        x.row(0, 6, "s=6 = 6");
        x.row(0, 5, "o/o");
        x.row(0, 4, "p=");
        x.row(0, 3, "t");
        x.row(0, 2, "e=2");
        x.text("abc").hold();
        x.row(0, 1, "i");
        x.row(0, 0, "/ = ~");
        due("12: the whole text", x.stable(0), "005/ = ~112i\0" + OF_ABC + "203e=2312t\0" + OF_NONE
            + "402p=503o/o607s=6 = 670800000007");
        due("13: its digest", x.digits(0), Model.sha256("005/ = ~112i\0" + OF_ABC + "203e=2312t\0" + OF_NONE
            + "402p=503o/o607s=6 = 670800000007"));
    }

    private void digest() {
        Subject x = one();
        for (int wrong : new int[] {-1, 8, 64, Integer.MIN_VALUE, Integer.MAX_VALUE}) {
            due("13: digest(0, " + wrong + ")", x.digest(0, wrong), 0);
        }
        for (int wrong : WRONG) {
            due("13: digest(" + wrong + ", 0)", x.digest(wrong, 0), 0);
        }
        due("13: of none", x.digits(0), OF_NONE);
        // The padding takes a block of its own from 56 bytes on: all lengths round a block's end.
        for (int length = 0; length <= 64; length++) {
            Subject y = one();
            String word = times(length, "w");
            y.row(0, 0, word);
            String stable = "0" + (char) (48 + length / 64) + (char) (48 + length % 64) + word;
            due("13: of a word of " + length, y.digits(0), Model.sha256(stable));
        }
        Subject z = one();
        StringBuilder stable = new StringBuilder();
        for (int i = 0; i < 24; i++) {
            z.row(0, 1, String.valueOf((char) ('a' + i)));
            stable.append("112").append((char) ('a' + i)).append('\0').append(OF_NONE);
        }
        due("13: of 24 inputs", z.digits(0), Model.sha256(stable.toString()));
        due("13: asked again", z.digits(0), Model.sha256(stable.toString()));
    }

    private void digestIsStable() {
        Subject x = two();
        String[] paths = {"a", "b", "c/d", "e"};
        for (int i = 0; i < 4; i++) {
            x.row(0, 1, paths[i]);
            x.row(0, 6, "n" + i + "=" + i);
            x.row(1, 6, "n" + (3 - i) + "=" + (3 - i));
            x.row(1, 1, paths[3 - i]);
        }
        due("13: told in another order", x.digits(0), x.digits(1));
        due("14: told in another order", x.differ(0, 1), -1);
        x.row(0, 0, "v");
        x.row(0, 0, "w");
        x.row(1, 0, "w");
        x.row(1, 0, "v");
        due("13: words in another order", x.digest(0, 0) == x.digest(1, 0), false);
        due("14: words in another order", x.differ(0, 1), 0);
    }

    private void differ() {
        Subject x = two();
        due("14: of two without rows", x.differ(0, 1), -1);
        due("14: of one and itself", x.differ(1, 1), -1);
        for (int wrong : new int[] {-1, 2, 12, Integer.MIN_VALUE, Integer.MAX_VALUE}) {
            due("14: differ(0, " + wrong + ")", x.differ(0, wrong), -1);
            due("14: differ(" + wrong + ", 0)", x.differ(wrong, 0), -1);
            due("14: differ(" + wrong + ", " + wrong + ")", x.differ(wrong, wrong), -1);
        }
        x.row(0, 0, "w");
        due("14: a row that one hasn't", x.differ(0, 1), 0);
        due("14: a row that the other hasn't", x.differ(1, 0), 0);
        x.row(1, 0, "w");
        due("14: the same", x.differ(0, 1), -1);
        x.row(0, 6, "z=1");
        x.row(1, 6, "z=2");
        due("14: what a name is", x.differ(0, 1), 1);
        x.row(0, 5, "a");
        x.row(1, 4, "a=");
        due("14: kinds", x.differ(0, 1), 1);
        due("14: kinds, turned round", x.differ(1, 0), 1);
        due("14: of one with rows and itself", x.differ(0, 0), -1);
    }

    private void differByEach() {
        String[][] pairs = {
            {"0", "w", "v"}, {"0", "w", "ww"}, {"0", "", "w"}, {"1", "a", "b"}, {"3", "a", "a/b"}, {"5", "a", "A"},
            {"2", "a=", "b="}, {"2", "a=1", "a=2"}, {"4", "a=1", "a=11"}, {"4", "a=", "b="}, {"6", "a=", "a= "}
        };
        for (String[] pair : pairs) {
            Subject x = two();
            x.allow("a");
            x.allow("b");
            x.row(0, 0, "same");
            x.row(1, 0, "same");
            x.row(0, Integer.parseInt(pair[0]), pair[1]);
            x.row(1, Integer.parseInt(pair[0]), pair[2]);
            x.edition(0, 5);
            x.edition(1, 5);
            due("14: " + String.join(" ", pair), x.differ(0, 1), 1);
        }
        for (int kind : new int[] {1, 3}) {
            Subject x = two();
            x.row(0, kind, "a");
            x.text("other").hold();
            x.row(1, kind, "a");
            due("14: contents", x.differ(0, 1), 0);
        }
        Subject y = two();
        y.row(0, 1, "a");
        y.row(1, 3, "a");
        due("14: the same path of another kind", y.differ(0, 1), 0);
        Subject z = two();
        z.edition(0, 1);
        due("14: an edition that one hasn't", z.differ(0, 1), 0);
        z.edition(1, 2);
        due("14: editions", z.differ(0, 1), 0);
        z.edition(1, 1);
        due("14: the same edition", z.differ(0, 1), -1);
        z.row(0, 2, "a=1");
        due("14: an ENV that counts for nothing", z.differ(0, 1), -1);
        z.allow("a");
        due("14: and one that is allowed", z.differ(0, 1), 0);
    }

    private void differAtTheLast() {
        Subject x = two();
        for (int i = 0; i < 23; i++) {
            x.row(0, 0);
            x.row(1, 0);
        }
        x.row(0, 0, "w");
        due("14: the 24th that one hasn't", x.differ(1, 0), 23);
        x.row(1, 0, "v");
        due("14: the 24th", x.differ(0, 1), 23);
        Subject y = two();
        for (int i = 0; i < 24; i++) {
            y.row(0, 0);
            y.row(1, 0);
        }
        due("14: all 24 the same", y.differ(0, 1), -1);
    }

    private static BigInteger root(BigInteger of, int power) {
        BigInteger low = BigInteger.ZERO;
        BigInteger high = of.add(BigInteger.ONE);
        while (high.subtract(low).compareTo(BigInteger.ONE) > 0) {
            BigInteger middle = low.add(high).shiftRight(1);
            if (middle.pow(power).compareTo(of) <= 0) {
                low = middle;
            } else {
                high = middle;
            }
        }
        return low;
    }

    private void constants() {
        Subject x = new Subject();
        BigInteger prime = BigInteger.ONE;
        for (int t = 0; t < 64; t++) {
            prime = prime.nextProbablePrime();
            due("15: constant(" + t + ")", x.constant(t), root(prime.shiftLeft(96), 3).intValue());
            if (t < 8) {
                due("15: constant(" + (64 + t) + ")", x.constant(64 + t), root(prime.shiftLeft(64), 2).intValue());
            }
        }
        for (int wrong : new int[] {-1, -64, 72, 73, 128, Integer.MIN_VALUE, Integer.MAX_VALUE}) {
            due("15: constant(" + wrong + ")", x.constant(wrong), 0);
        }
        x.actions(1).digest(0, 0);
        x.row(0, 0, "w");
        x.digest(0, 0);
        due("15: constant(64) after a digest", x.constant(64), 0x6a09e667);
    }

    private void objectsAreApart() {
        Subject x = one();
        Subject y = one();
        x.text("abc").hold();
        x.salt("s");
        x.allow("a");
        x.row(0, 0, "w");
        x.text("left");
        y.row(0, 2, "a=1");
        y.row(0, 1, "i");
        due("1: another object's text", y.stable(0), "112i\0" + OF_NONE);
        due("1: another object's digest", y.digits(0), Model.sha256("112i\0" + OF_NONE));
    }

    public static void main(String[] args) {
        PromisesTest test = new PromisesTest();
        test.newObject();
        test.type();
        test.textIsEmptied();
        test.textIsKept();
        test.action();
        test.hold();
        test.rowWrongActionsAndKinds();
        test.rowPaths();
        test.rowNames();
        test.rowIsThere();
        test.rowsAreFull();
        test.edition();
        test.editionOfFull();
        test.allow();
        test.allowCounts();
        test.salt();
        test.rowsAndKinds();
        test.order();
        test.sizeAndCharacters();
        test.eachKindsText();
        test.digest();
        test.digestIsStable();
        test.differ();
        test.differByEach();
        test.differAtTheLast();
        test.constants();
        test.objectsAreApart();
        test.check.end();
    }
}
