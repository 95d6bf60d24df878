/** How an ActionDigests is used; README.md shows this file and what it prints. */
public final class Example {
    private static final int COMMAND = 0;
    private static final int INPUT = 1;
    private static final int ENV = 2;

    public static void main(String[] args) {
        ActionDigests digests = new ActionDigests();
        type(digests, "int main;");
        digests.hold();

        int one = digests.action();
        row(digests, one, COMMAND, "cc");
        row(digests, one, COMMAND, "-c");
        row(digests, one, INPUT, "src/main.c");
        row(digests, one, ENV, "LANG=C");
        digests.edition(one, 12);
        System.out.println("rows, LANG not allowed: " + digests.rows(one));
        type(digests, "LANG");
        digests.allow();
        System.out.println("rows, LANG allowed: " + digests.rows(one));

        int other = digests.action();
        digests.edition(other, 12);
        row(digests, other, ENV, "LANG=C");
        row(digests, other, INPUT, "src/main.c");
        row(digests, other, COMMAND, "cc");
        row(digests, other, COMMAND, "-c");
        System.out.println("told in another order, they differ at: " + digests.differ(one, other));
        digests.edition(other, 13);
        System.out.println("with another edition, they differ at: " + digests.differ(one, other));

        System.out.println("kind of the last row: " + digests.kind(one, 4));
        System.out.println("size: " + digests.size(one));
        System.out.println("first characters: " + characters(digests, one, 10));
        System.out.println("digest: " + digits(digests, one));
        type(digests, "own");
        digests.salt();
        System.out.println("digest behind a salt: " + digits(digests, one));
        System.out.println("K(0): " + digests.constant(0));

        try {
            row(digests, one, INPUT, "src//main.c");
        } catch (IllegalArgumentException e) {
            System.out.println("src//main.c is no path");
        }
        try {
            row(digests, one, INPUT, "src/main.c");
        } catch (IllegalStateException e) {
            System.out.println("src/main.c is there");
        }
    }

    private static void type(ActionDigests digests, String text) {
        for (char c : text.toCharArray()) {
            digests.type(c);
        }
    }

    private static void row(ActionDigests digests, int action, int kind, String text) {
        type(digests, text);
        digests.row(action, kind);
    }

    private static String characters(ActionDigests digests, int action, int count) {
        StringBuilder text = new StringBuilder();
        for (int k = 0; k < count && digests.character(action, k) != ActionDigests.NONE; k++) {
            text.append((char) digests.character(action, k));
        }
        return text.toString();
    }

    private static String digits(ActionDigests digests, int action) {
        StringBuilder digits = new StringBuilder();
        for (int part = 0; part < 8; part++) {
            digits.append(String.format("%08x", digests.digest(action, part)));
        }
        return digits.toString();
    }
}
