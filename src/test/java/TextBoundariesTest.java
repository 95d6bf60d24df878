/** Which characters and how many of them TEXT, WORDS, PATHS, NAMES, contents and the SALT take. */
public final class TextBoundariesTest extends Cases {
    /** "TEXT takes at most 64 characters with codes 32 .. 126": every code there is. */
    private void codes() {
        for (int code = 0; code <= Character.MAX_VALUE; code++) {
            boolean taken = code >= 32 && code <= 126;
            Subject x = one();
            due("2: type(" + code + ")", x.type((char) code), taken);
            x.row(0, 0);
            due("2: size with the code " + code, x.size(0), taken ? 4 : 3);
            due("2: the code " + code, x.character(0, 3), taken ? code : -1);
        }
    }

    /** "false if .. 64 are there": the 64th is taken, and what comes then changes nothing. */
    private void fullText() {
        Subject x = one();
        String typed = "";
        for (int i = 0; i < 64; i++) {
            char c = (char) (32 + i);
            due("2: type, " + i + " are there", x.type(c), true);
            typed += c;
        }
        for (int code = 32; code <= 126; code++) {
            due("2: type(" + code + "), 64 are there", x.type((char) code), false);
        }
        x.row(0, 0);
        due("2: the first 64", x.stable(0), stableRow(0, typed));
        due("2: type, none are there", x.type('z'), true);
        x.row(0, 0);
        due("2: the text behind a full one", x.character(0, 70), (int) 'z');
    }

    /** A character that is refused takes none of the 64 places. */
    private void refusedCodesTakeNoPlace() {
        Subject x = one();
        for (int i = 0; i < 64; i++) {
            due("2: type(31)", x.type((char) 31), false);
            due("2: type behind it", x.type('a'), true);
            due("2: type(127)", x.type((char) 127), false);
        }
        due("2: type, 64 are there", x.type('a'), false);
        x.row(0, 0);
        due("2: size", x.size(0), 67);
    }

    /** "COMMAND: a WORD (TEXT, 0 to 64 characters)": every length, and every character. */
    private void words() {
        for (int length = 0; length <= 64; length++) {
            Subject x = one();
            String word = times(length, "~");
            due("5: a word of " + length, x.row(0, 0, word), FINE);
            due("12: a word of " + length, x.stable(0), stableRow(0, word));
        }
        for (String word : new String[] {" ", "=", "/", ".", "..", "//", "a=b", "_", "  ", "\"\\"}) {
            Subject x = one();
            due("5: the word " + word, x.row(0, 0, word), FINE);
            due("12: the word " + word, x.stable(0), stableRow(0, word));
        }
    }

    /** "PATH: 1 to 40 characters": every length that TEXT has, of one piece and of many. */
    private void pathLengths() {
        for (int kind : PATH_KINDS) {
            for (int length = 0; length <= 64; length++) {
                path(kind, times(length, "p"));
                // Of an even length this ends with a / and is none for that.
                path(kind, times(64, "p/").substring(0, length));
            }
        }
    }

    private void path(int kind, String text) {
        boolean right = text.length() >= 1 && text.length() <= 40 && isPieces(text);
        Subject x = one();
        due("5: row(0, " + kind + ") by " + text, x.row(0, kind, text), right ? FINE : ARGUMENT);
        String body = kind == 5 ? text : text + "\0" + OF_NONE;
        due("12: row(0, " + kind + ") by " + text, x.stable(0), right ? stableRow(kind, body) : "");
    }

    private static boolean isPieces(String text) {
        for (String piece : text.split("/", -1)) {
            if (piece.equals(".") || piece.equals("..") || !piece.matches("[A-Za-z0-9._-]+")) {
                return false;
            }
        }
        return true;
    }

    /** "PIECES of letters, digits, . _ - with / between": each character at each place. */
    private void pathCharacters() {
        for (int kind : PATH_KINDS) {
            for (int code = 32; code <= 126; code++) {
                String c = String.valueOf((char) code);
                path(kind, c);
                path(kind, c + "p");
                path(kind, "p" + c + "p");
                path(kind, "p" + c);
                path(kind, "p/" + c);
                path(kind, c + "/p");
                path(kind, times(39, "p") + c);
                path(kind, times(40, "p") + c);
            }
        }
    }

    /** "no PIECE is empty, . or ..": all that can be made of six letters, dots and strokes. */
    private void pieces() {
        for (int kind : PATH_KINDS) {
            for (int length = 0; length <= 6; length++) {
                for (String text : allOf("a./", length)) {
                    path(kind, text);
                }
            }
        }
    }

    private static String[] allOf(String alphabet, int length) {
        String[] all = {""};
        for (int i = 0; i < length; i++) {
            String[] longer = new String[all.length * alphabet.length()];
            for (int k = 0; k < longer.length; k++) {
                longer[k] = all[k / alphabet.length()] + alphabet.charAt(k % alphabet.length());
            }
            all = longer;
        }
        return all;
    }

    /** "NAME: 1 to 16" and "what it is (0 to 40 characters)": every length of both. */
    private void nameLengths() {
        for (int kind : NAME_KINDS) {
            for (int name = 0; name <= 63; name++) {
                for (int value = 0; value <= 63 - name; value++) {
                    valued(kind, times(name, "n") + "=" + times(value, "v"));
                }
            }
            for (int length = 0; length <= 64; length++) {
                valued(kind, times(length, "n"));
                valued(kind, times(length, "="));
            }
        }
        for (int length = 0; length <= 64; length++) {
            name(times(length, "n"));
        }
    }

    private void valued(int kind, String text) {
        String name = text.split("=", 2)[0];
        boolean right = text.contains("=") && isName(name) && text.length() - name.length() - 1 <= 40;
        Subject x = one();
        due("5: row(0, " + kind + ") by " + text, x.row(0, kind, text), right ? FINE : ARGUMENT);
        if (kind == 2 && right) {
            due("9: an ENV that isn't allowed, " + text, x.rows(0), 0);
            due("7: its name", x.allow(name), FINE);
        }
        due("12: row(0, " + kind + ") by " + text, x.stable(0), right ? stableRow(kind, text) : "");
    }

    private static boolean isName(String text) {
        return text.length() >= 1 && text.length() <= 16 && text.matches("[A-Za-z][A-Za-z0-9_]*");
    }

    private void name(String text) {
        Subject x = one();
        due("7: allow() by " + text, x.allow(text), isName(text) ? FINE : ARGUMENT);
        if (isName(text)) {
            x.row(0, 2, text + "=");
            due("7: the ENV " + text, x.stable(0), stableRow(2, text + "="));
        }
    }

    /** "letters, digits, _ , a letter first": each character at each place. */
    private void nameCharacters() {
        for (int code = 32; code <= 126; code++) {
            String c = String.valueOf((char) code);
            String[] names = {c, c + "n", "n" + c + "n", "n" + c, times(15, "n") + c, times(16, "n") + c};
            for (String name : names) {
                name(name);
                for (int kind : NAME_KINDS) {
                    valued(kind, name + "=1");
                }
            }
            for (int kind : NAME_KINDS) {
                valued(kind, "n=" + c);
                valued(kind, "n=" + times(39, "v") + c);
                valued(kind, "n=" + times(40, "v") + c);
            }
        }
    }

    /** Where the NAME ends: all that can be made of five letters, digits, _ and = . */
    private void nameForms() {
        for (int length = 0; length <= 5; length++) {
            for (String text : allOf("a0_=", length)) {
                name(text);
                for (int kind : NAME_KINDS) {
                    valued(kind, text);
                }
            }
        }
    }

    /** "the DIGEST of its characters": contents of every length that TEXT has. */
    private void contents() {
        for (int length = 0; length <= 64; length++) {
            String content = times(length, "~");
            for (int kind : new int[] {1, 3}) {
                Subject x = one();
                x.text("before").hold();
                x.text(content).hold();
                x.row(0, kind, "p");
                due("4: a content of " + length, x.stable(0), stableRow(kind, "p\0" + Model.sha256(content)));
            }
        }
    }

    /** "0 to 16 characters of TEXT": every length; behind one that is refused the SALT is as before. */
    private void saltLengths() {
        for (int length = 0; length <= 64; length++) {
            Subject x = one();
            String salt = times(length, "s");
            due("8: the first salt", x.salt("before"), FINE);
            due("8: a salt of " + length, x.salt(salt), length <= 16 ? FINE : ARGUMENT);
            String behind = length <= 16 ? salt : "before";
            due("8: behind a salt of " + length, x.digits(0), Model.sha256(behind));
            x.row(0, 0, "w");
            due("8: a row behind a salt of " + length, x.digits(0), Model.sha256(behind + "001w"));
        }
    }

    public static void main(String[] args) {
        TextBoundariesTest test = new TextBoundariesTest();
        test.codes();
        test.fullText();
        test.refusedCodesTakeNoPlace();
        test.words();
        test.pathLengths();
        test.pathCharacters();
        test.pieces();
        test.nameLengths();
        test.nameCharacters();
        test.nameForms();
        test.contents();
        test.saltLengths();
        test.check.end();
    }
}
