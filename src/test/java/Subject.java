/**
 * An ActionDigests with its calls counted, since nothing is promised after the 512th; a call that
 * may throw answers the exception's name, or "" if it threw nothing.
 */
final class Subject {
    private static final int MOST_CALLS = 512;

    private final ActionDigests digests = new ActionDigests();
    private int calls = 0;

    private ActionDigests next() {
        calls++;
        if (calls > MOST_CALLS) {
            throw new AssertionError("the test makes more calls than an object is used for");
        }
        return digests;
    }

    int callsLeft() {
        return MOST_CALLS - calls;
    }

    static String thrown(Runnable call) {
        try {
            call.run();
            return "";
        } catch (RuntimeException e) {
            return e.getClass().getSimpleName();
        }
    }

    boolean type(char c) {
        return next().type(c);
    }

    Subject text(String characters) {
        for (char c : characters.toCharArray()) {
            type(c);
        }
        return this;
    }

    /** The action's number, or the exception's name. */
    String action() {
        int[] number = {0};
        String name = thrown(() -> number[0] = next().action());
        return name.isEmpty() ? String.valueOf(number[0]) : name;
    }

    Subject actions(int count) {
        for (int i = 0; i < count; i++) {
            action();
        }
        return this;
    }

    void hold() {
        next().hold();
    }

    String row(int action, int kind) {
        return thrown(() -> next().row(action, kind));
    }

    String row(int action, int kind, String text) {
        return text(text).row(action, kind);
    }

    String edition(int action, int number) {
        return thrown(() -> next().edition(action, number));
    }

    String allow() {
        return thrown(() -> next().allow());
    }

    String allow(String name) {
        return text(name).allow();
    }

    String salt() {
        return thrown(() -> next().salt());
    }

    String salt(String text) {
        return text(text).salt();
    }

    int rows(int action) {
        return next().rows(action);
    }

    int kind(int action, int k) {
        return next().kind(action, k);
    }

    int size(int action) {
        return next().size(action);
    }

    int character(int action, int k) {
        return next().character(action, k);
    }

    int digest(int action, int part) {
        return next().digest(action, part);
    }

    int differ(int a, int b) {
        return next().differ(a, b);
    }

    int constant(int t) {
        return next().constant(t);
    }

    /** The kinds of an action's rows that count, in order. */
    String kinds(int action) {
        StringBuilder kinds = new StringBuilder();
        int count = rows(action);
        for (int k = 0; k < count; k++) {
            kinds.append(kind(action, k));
        }
        return kinds.toString();
    }

    /** An action's STABLE TEXT, read character by character. */
    String stable(int action) {
        StringBuilder text = new StringBuilder();
        int size = size(action);
        for (int k = 0; k < size; k++) {
            text.append((char) character(action, k));
        }
        return text.toString();
    }

    /** An action's DIGEST in digits of sixteen, read part by part. */
    String digits(int action) {
        StringBuilder digits = new StringBuilder();
        for (int part = 0; part < 8; part++) {
            digits.append(String.format("%08x", digest(action, part)));
        }
        return digits.toString();
    }
}
