/**
 * Digests of actions: what goes into a step of a build, as rows in a stable order, whatever the
 * order in which they were told; a digest over their bytes; and of two actions the first row in
 * which they differ.
 */
public final class ActionDigests {
    public static final int NONE = -1;

    private static final int COMMAND = 0;
    private static final int INPUT = 1;
    private static final int ENV = 2;
    private static final int TOOL = 3;
    private static final int PLATFORM = 4;
    private static final int OUTPUT = 5;
    private static final int SETTING = 6;
    private static final int EDITION = 7;

    private static final int MOST_ACTIONS = 12;
    private static final int MOST_ROWS = 24;
    private static final int MOST_ALLOWED = 8;
    private static final int MOST_TEXT = 64;
    private static final int MOST_SALT = 16;
    private static final int MOST_PATH = 40;
    private static final int MOST_NAME = 16;
    private static final int MOST_VALUE = 40;
    private static final int MOST_EDITION = 99999999;
    private static final int EDITION_DIGITS = 8;
    private static final int HEAD = 3;

    private static final int SUMS = 8;
    private static final int ROUNDS = 64;
    private static final int BLOCK = 64;
    private static final int DIGEST_DIGITS = 64;

    private static final int[] ROUND_CONSTANTS = {
        0x428a2f98, 0x71374491, 0xb5c0fbcf, 0xe9b5dba5, 0x3956c25b, 0x59f111f1, 0x923f82a4, 0xab1c5ed5,
        0xd807aa98, 0x12835b01, 0x243185be, 0x550c7dc3, 0x72be5d74, 0x80deb1fe, 0x9bdc06a7, 0xc19bf174,
        0xe49b69c1, 0xefbe4786, 0x0fc19dc6, 0x240ca1cc, 0x2de92c6f, 0x4a7484aa, 0x5cb0a9dc, 0x76f988da,
        0x983e5152, 0xa831c66d, 0xb00327c8, 0xbf597fc7, 0xc6e00bf3, 0xd5a79147, 0x06ca6351, 0x14292967,
        0x27b70a85, 0x2e1b2138, 0x4d2c6dfc, 0x53380d13, 0x650a7354, 0x766a0abb, 0x81c2c92e, 0x92722c85,
        0xa2bfe8a1, 0xa81a664b, 0xc24b8b70, 0xc76c51a3, 0xd192e819, 0xd6990624, 0xf40e3585, 0x106aa070,
        0x19a4c116, 0x1e376c08, 0x2748774c, 0x34b0bcb5, 0x391c0cb3, 0x4ed8aa4a, 0x5b9cca4f, 0x682e6ff3,
        0x748f82ee, 0x78a5636f, 0x84c87814, 0x8cc70208, 0x90befffa, 0xa4506ceb, 0xbef9a3f7, 0xc67178f2
    };

    private static final int[] FIRST_SUMS = {
        0x6a09e667, 0xbb67ae85, 0x3c6ef372, 0xa54ff53a, 0x510e527f, 0x9b05688c, 0x1f83d9ab, 0x5be0cd19
    };

    private final Text text = new Text();
    private final Sha sha = new Sha();
    private final Action[] actions = new Action[MOST_ACTIONS];
    private int actionCount = 0;
    private final Key[] allowed = new Key[MOST_ALLOWED];
    private int allowedCount = 0;
    private char[] saltCharacters = new char[0];
    private final char[] heldDigits = new char[DIGEST_DIGITS];

    public ActionDigests() {
        holdContent(new char[0]);
    }

    public boolean type(char c) {
        return text.append(c);
    }

    public int action() throws IllegalStateException {
        if (actionCount >= MOST_ACTIONS) {
            throw new IllegalStateException("there are 12 actions");
        }
        int number = actionCount;
        actions[number] = new Action();
        actionCount++;
        return number;
    }

    public void hold() {
        holdContent(text.take());
    }

    public void row(int action, int kind) throws IllegalArgumentException, IllegalStateException {
        // Taken before anything is looked at: a call that is refused empties TEXT too.
        char[] taken = text.take();
        Action target = actionAt(action);
        if (target == null) {
            throw new IllegalArgumentException("there is no such action");
        }
        if (!Forms.fits(taken, kind)) {
            throw new IllegalArgumentException("there is no such kind, or the text is none of it");
        }
        Key key = new Key(taken, Forms.keyLength(taken, kind));
        if (kind != COMMAND && target.has(kind, key)) {
            throw new IllegalStateException("the path or name is there for this kind");
        }
        if (target.isFull()) {
            throw new IllegalStateException("there are 24 rows");
        }
        target.insert(new Row(kind, key, bodyOf(taken, kind)));
    }

    public void edition(int action, int number) throws IllegalArgumentException, IllegalStateException {
        Action target = actionAt(action);
        if (target == null) {
            throw new IllegalArgumentException("there is no such action");
        }
        if (number < 0 || number > MOST_EDITION) {
            throw new IllegalArgumentException("there is no such number");
        }
        char[] digits = editionDigits(number);
        Row numbered = new Row(EDITION, new Key(digits, 0), digits);
        if (target.replaceEdition(numbered)) {
            return;
        }
        if (target.isFull()) {
            throw new IllegalStateException("there are 24 rows");
        }
        target.insert(numbered);
    }

    public void allow() throws IllegalArgumentException, IllegalStateException {
        char[] taken = text.take();
        if (!Forms.isName(taken, taken.length)) {
            throw new IllegalArgumentException("the text is no name");
        }
        Key name = new Key(taken, taken.length);
        if (isAllowed(name)) {
            throw new IllegalStateException("the name is allowed");
        }
        if (allowedCount >= MOST_ALLOWED) {
            throw new IllegalStateException("there are 8 allowed names");
        }
        allowed[allowedCount] = name;
        allowedCount++;
    }

    public void salt() throws IllegalArgumentException {
        char[] taken = text.take();
        if (taken.length > MOST_SALT) {
            throw new IllegalArgumentException("the text has more than 16 characters");
        }
        saltCharacters = taken;
    }

    public int rows(int action) {
        Action target = actionAt(action);
        if (target == null) {
            return NONE;
        }
        int counted = 0;
        for (int i = 0; i < MOST_ROWS; i++) {
            if (countingRowAt(target, i) != null) {
                counted++;
            }
        }
        return counted;
    }

    public int kind(int action, int k) {
        Action target = actionAt(action);
        if (target == null || k < 0) {
            return NONE;
        }
        Row row = rowInOrder(target, k);
        return row == null ? NONE : row.kind;
    }

    public int size(int action) {
        Action target = actionAt(action);
        if (target == null) {
            return NONE;
        }
        int total = 0;
        for (int i = 0; i < MOST_ROWS; i++) {
            Row row = countingRowAt(target, i);
            if (row != null) {
                total += row.stableLength();
            }
        }
        return total;
    }

    public int character(int action, int k) {
        Action target = actionAt(action);
        if (target == null || k < 0) {
            return NONE;
        }
        int left = k;
        for (int i = 0; i < MOST_ROWS; i++) {
            Row row = countingRowAt(target, i);
            if (row != null) {
                if (left < row.stableLength()) {
                    return row.stableCharacter(left);
                }
                left -= row.stableLength();
            }
        }
        return NONE;
    }

    public int digest(int action, int part) {
        Action target = actionAt(action);
        if (target == null || part < 0 || part >= SUMS) {
            return 0;
        }
        sha.begin();
        sha.feedAll(saltCharacters);
        for (int i = 0; i < MOST_ROWS; i++) {
            Row row = countingRowAt(target, i);
            if (row != null) {
                feedRow(row);
            }
        }
        sha.end();
        return sha.sums[part];
    }

    public int differ(int a, int b) {
        Action one = actionAt(a);
        Action other = actionAt(b);
        if (one == null || other == null) {
            return NONE;
        }
        for (int place = 0; place < MOST_ROWS; place++) {
            Row ours = rowInOrder(one, place);
            Row theirs = rowInOrder(other, place);
            if (ours == null && theirs == null) {
                return NONE;
            }
            if (ours == null || theirs == null || !ours.isLike(theirs)) {
                return place;
            }
        }
        return NONE;
    }

    public int constant(int t) {
        if (t >= 0 && t < ROUNDS) {
            return ROUND_CONSTANTS[t];
        }
        if (t >= ROUNDS && t < ROUNDS + SUMS) {
            return FIRST_SUMS[t - ROUNDS];
        }
        return 0;
    }

    private void holdContent(char[] content) {
        sha.begin();
        sha.feedAll(content);
        sha.end();
        sha.writeDigits(heldDigits);
    }

    private Action actionAt(int number) {
        return number < 0 || number >= actionCount ? null : actions[number];
    }

    private boolean isAllowed(Key name) {
        for (int i = 0; i < MOST_ALLOWED; i++) {
            Key one = allowed[i];
            if (one != null && one.compareWith(name) == 0) {
                return true;
            }
        }
        return false;
    }

    // Asked anew each time, since a name may be allowed long after its ENV was told.
    private boolean counts(Row row) {
        return row.kind != ENV || isAllowed(row.key);
    }

    private Row countingRowAt(Action target, int place) {
        Row row = target.rowAt(place);
        return row != null && counts(row) ? row : null;
    }

    private Row rowInOrder(Action target, int k) {
        int left = k;
        for (int i = 0; i < MOST_ROWS; i++) {
            Row row = countingRowAt(target, i);
            if (row != null) {
                if (left == 0) {
                    return row;
                }
                left--;
            }
        }
        return null;
    }

    private void feedRow(Row row) {
        int length = row.stableLength();
        for (int i = 0; i < length; i++) {
            sha.feed(row.stableCharacter(i));
        }
    }

    private char[] bodyOf(char[] taken, int kind) {
        if (kind != INPUT && kind != TOOL) {
            return taken;
        }
        char[] body = new char[taken.length + 1 + DIGEST_DIGITS];
        for (int i = 0; i < taken.length; i++) {
            body[i] = taken[i];
        }
        for (int i = 0; i < DIGEST_DIGITS; i++) {
            body[taken.length + 1 + i] = heldDigits[i];
        }
        return body;
    }

    private static char[] editionDigits(int number) {
        char[] digits = new char[EDITION_DIGITS];
        int left = number;
        for (int i = EDITION_DIGITS - 1; i >= 0; i--) {
            digits[i] = (char) ('0' + left % 10);
            left /= 10;
        }
        return digits;
    }

    /** The characters that have been typed and not been taken. */
    private static final class Text {
        private final char[] characters = new char[MOST_TEXT];
        private int length = 0;

        boolean append(char c) {
            if (c < 32 || c > 126 || length >= MOST_TEXT) {
                return false;
            }
            characters[length] = c;
            length++;
            return true;
        }

        char[] take() {
            char[] taken = new char[length];
            for (int i = 0; i < taken.length; i++) {
                taken[i] = characters[i];
            }
            length = 0;
            return taken;
        }
    }

    /** What the texts of the kinds look like. */
    private static final class Forms {
        static boolean fits(char[] text, int kind) {
            switch (kind) {
                case COMMAND:
                    return true;
                case INPUT:
                case TOOL:
                case OUTPUT:
                    return isPath(text);
                case ENV:
                case PLATFORM:
                case SETTING:
                    return isNameAndValue(text);
                default:
                    return false;
            }
        }

        // COMMANDs have an empty key: all are alike in order, and so stay as they came.
        static int keyLength(char[] text, int kind) {
            switch (kind) {
                case INPUT:
                case TOOL:
                case OUTPUT:
                    return text.length;
                case ENV:
                case PLATFORM:
                case SETTING:
                    return nameLength(text);
                default:
                    return 0;
            }
        }

        static boolean isName(char[] text, int length) {
            if (length < 1 || length > MOST_NAME || length > text.length || !isLetter(text[0])) {
                return false;
            }
            for (int i = 1; i < length; i++) {
                if (!isLetter(text[i]) && !isDigit(text[i]) && text[i] != '_') {
                    return false;
                }
            }
            return true;
        }

        private static boolean isNameAndValue(char[] text) {
            int name = nameLength(text);
            return name < text.length && isName(text, name) && text.length - name - 1 <= MOST_VALUE;
        }

        private static int nameLength(char[] text) {
            for (int i = 0; i < text.length; i++) {
                if (text[i] == '=') {
                    return i;
                }
            }
            return text.length;
        }

        private static boolean isPath(char[] text) {
            if (text.length > MOST_PATH) {
                return false;
            }
            int start = 0;
            for (int i = 0; i < text.length; i++) {
                if (text[i] == '/') {
                    if (!isPiece(text, start, i)) {
                        return false;
                    }
                    start = i + 1;
                }
            }
            return isPiece(text, start, text.length);
        }

        private static boolean isPiece(char[] text, int start, int end) {
            boolean onlyDots = true;
            for (int i = start; i < end; i++) {
                char c = text[i];
                if (c != '.') {
                    onlyDots = false;
                    if (!isLetter(c) && !isDigit(c) && c != '_' && c != '-') {
                        return false;
                    }
                }
            }
            return !onlyDots || end - start > 2;
        }

        private static boolean isLetter(char c) {
            return c >= 'a' && c <= 'z' || c >= 'A' && c <= 'Z';
        }

        private static boolean isDigit(char c) {
            return c >= '0' && c <= '9';
        }
    }

    /** A PATH or NAME: the first characters of a text. */
    private static final class Key {
        private final char[] characters;
        private final int length;

        Key(char[] characters, int length) {
            this.characters = characters;
            this.length = Math.min(length, characters.length);
        }

        int compareWith(Key other) {
            int shared = Math.min(length, other.length);
            for (int i = 0; i < shared; i++) {
                if (characters[i] != other.characters[i]) {
                    return characters[i] - other.characters[i];
                }
            }
            return length - other.length;
        }
    }

    /** A ROW; its body is what follows the length in the STABLE TEXT. */
    private static final class Row {
        final int kind;
        final Key key;
        private final char[] body;

        Row(int kind, Key key, char[] body) {
            this.kind = kind;
            this.key = key;
            this.body = body;
        }

        int stableLength() {
            return HEAD + body.length;
        }

        int stableCharacter(int at) {
            if (at == 0) {
                return 48 + kind;
            }
            if (at == 1) {
                return 48 + body.length / 64;
            }
            if (at == 2) {
                return 48 + body.length % 64;
            }
            int inBody = at - HEAD;
            return inBody < 0 || inBody >= body.length ? NONE : body[inBody];
        }

        boolean isBehind(Row other) {
            return kind != other.kind ? kind > other.kind : key.compareWith(other.key) > 0;
        }

        // The body holds all that a row says, its digest too, so nothing else needs comparing.
        boolean isLike(Row other) {
            if (kind != other.kind || body.length != other.body.length) {
                return false;
            }
            for (int i = 0; i < body.length; i++) {
                if (body[i] != other.body[i]) {
                    return false;
                }
            }
            return true;
        }
    }

    /** An action's ROWS, always in order, those that do not count among them. */
    private static final class Action {
        private final Row[] ordered = new Row[MOST_ROWS];
        private int count = 0;

        boolean isFull() {
            return count >= MOST_ROWS;
        }

        Row rowAt(int place) {
            return place < 0 || place >= count ? null : ordered[place];
        }

        boolean has(int kind, Key key) {
            for (int i = 0; i < MOST_ROWS; i++) {
                Row row = rowAt(i);
                if (row != null && row.kind == kind && row.key.compareWith(key) == 0) {
                    return true;
                }
            }
            return false;
        }

        // Only rows that belong behind the new one move: those alike in order stay as they came.
        void insert(Row row) {
            if (isFull()) {
                return;
            }
            int place = count;
            while (place > 0) {
                Row before = rowAt(place - 1);
                if (before == null || !before.isBehind(row)) {
                    break;
                }
                ordered[place] = before;
                place--;
            }
            ordered[place] = row;
            count++;
        }

        boolean replaceEdition(Row edition) {
            for (int i = 0; i < MOST_ROWS; i++) {
                Row row = rowAt(i);
                if (row != null && row.kind == EDITION) {
                    ordered[i] = edition;
                    return true;
                }
            }
            return false;
        }
    }

    /** SHA-256, fed byte by byte; one serves all calls, so that none makes arrays of its own. */
    private static final class Sha {
        final int[] sums = new int[SUMS];
        private final int[] words = new int[ROUNDS];
        private int filled = 0;
        private long fed = 0;

        void begin() {
            for (int i = 0; i < SUMS; i++) {
                sums[i] = FIRST_SUMS[i];
            }
            filled = 0;
            fed = 0;
        }

        void feedAll(char[] characters) {
            for (int i = 0; i < characters.length; i++) {
                feed(characters[i]);
            }
        }

        // Four bytes push out what a word held before, so words need no clearing.
        void feed(int value) {
            int word = filled >> 2 & 15;
            words[word] = words[word] << 8 | value & 255;
            filled++;
            fed++;
            if (filled >= BLOCK) {
                spreadWords();
                mixBlock();
                filled = 0;
            }
        }

        void end() {
            long bits = fed * 8;
            feed(128);
            for (int i = 0; i < BLOCK && filled != BLOCK - 8; i++) {
                feed(0);
            }
            for (int shift = 56; shift >= 0; shift -= 8) {
                feed((int) (bits >>> shift & 255));
            }
        }

        void writeDigits(char[] digits) {
            for (int i = 0; i < DIGEST_DIGITS && i < digits.length; i++) {
                int digit = sums[i >> 3] >>> 28 - 4 * (i & 7) & 15;
                digits[i] = (char) (digit < 10 ? '0' + digit : 'a' + digit - 10);
            }
        }

        private void spreadWords() {
            for (int t = 16; t < ROUNDS; t++) {
                int near = words[t - 2];
                int far = words[t - 15];
                int nearMixed = turned(near, 17) ^ turned(near, 19) ^ near >>> 10;
                int farMixed = turned(far, 7) ^ turned(far, 18) ^ far >>> 3;
                words[t] = nearMixed + words[t - 7] + farMixed + words[t - 16];
            }
        }

        private void mixBlock() {
            int a = sums[0];
            int b = sums[1];
            int c = sums[2];
            int d = sums[3];
            int e = sums[4];
            int f = sums[5];
            int g = sums[6];
            int h = sums[7];
            for (int t = 0; t < ROUNDS; t++) {
                int turnedE = turned(e, 6) ^ turned(e, 11) ^ turned(e, 25);
                int turnedA = turned(a, 2) ^ turned(a, 13) ^ turned(a, 22);
                int x = h + turnedE + (e & f ^ ~e & g) + ROUND_CONSTANTS[t] + words[t];
                int y = turnedA + (a & b ^ a & c ^ b & c);
                h = g;
                g = f;
                f = e;
                e = d + x;
                d = c;
                c = b;
                b = a;
                a = x + y;
            }
            sums[0] += a;
            sums[1] += b;
            sums[2] += c;
            sums[3] += d;
            sums[4] += e;
            sums[5] += f;
            sums[6] += g;
            sums[7] += h;
        }

        private static int turned(int value, int by) {
            return value >>> by | value << 32 - by;
        }
    }
}
