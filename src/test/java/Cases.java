/** What the tests of the document's sentences share. */
abstract class Cases {
    static final String FINE = "";
    static final String ARGUMENT = "IllegalArgumentException";
    static final String STATE = "IllegalStateException";
    static final String OF_NONE = "e3b0c44298fc1c149afbf4c8996fb92427ae41e4649b934ca495991b7852b855";
    static final String OF_ABC = "ba7816bf8f01cfea414140de5dae2223b00361a396177a9cb410ff61f20015ad";

    static final int[] PATH_KINDS = {1, 3, 5};
    static final int[] NAME_KINDS = {2, 4, 6};

    final Check check = new Check();

    void due(String call, Object got, Object want) {
        check.due(call, got, want);
    }

    static Subject one() {
        return new Subject().actions(1);
    }

    static Subject two() {
        return new Subject().actions(2);
    }

    static String times(int count, String text) {
        return text.repeat(count);
    }

    /** A row as it stands in the STABLE TEXT. */
    static String stableRow(int kind, String body) {
        return "" + (char) (48 + kind) + (char) (48 + body.length() / 64) + (char) (48 + body.length() % 64) + body;
    }
}
