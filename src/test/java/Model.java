import java.nio.charset.StandardCharsets;
import java.security.MessageDigest;
import java.security.NoSuchAlgorithmException;
import java.util.ArrayList;
import java.util.List;
import java.util.TreeMap;
import java.util.TreeSet;

/** The document said a second time, with the Java library: what an ActionDigests must answer. */
final class Model {
    private static final String NAME = "[A-Za-z][A-Za-z0-9_]{0,15}";
    private static final String PIECE = "(?!\\.{1,2}(/|$))[A-Za-z0-9._-]+";
    private static final String PATH = "(?=.{1,40}$)" + PIECE + "(/" + PIECE + ")*";
    private static final String VALUED = NAME + "=.{0,40}";
    private static final String ARGUMENT = "IllegalArgumentException";
    private static final String STATE = "IllegalStateException";

    private static final class Told {
        final List<String> words = new ArrayList<>();
        // By KIND and then by PATH or NAME, each with what stands behind the length.
        final List<TreeMap<String, String>> keyed = new ArrayList<>();
        String edition = null;

        Told() {
            for (int kind = 0; kind < 7; kind++) {
                keyed.add(new TreeMap<>());
            }
        }

        int count() {
            int count = words.size() + (edition == null ? 0 : 1);
            for (TreeMap<String, String> one : keyed) {
                count += one.size();
            }
            return count;
        }
    }

    private final List<Told> actions = new ArrayList<>();
    private final TreeSet<String> allowed = new TreeSet<>();
    private String text = "";
    private String held = "";
    private String salt = "";

    static String sha256(String characters) {
        try {
            byte[] bytes = characters.getBytes(StandardCharsets.ISO_8859_1);
            StringBuilder digits = new StringBuilder();
            for (byte b : MessageDigest.getInstance("SHA-256").digest(bytes)) {
                digits.append(String.format("%02x", b));
            }
            return digits.toString();
        } catch (NoSuchAlgorithmException e) {
            throw new AssertionError(e);
        }
    }

    private boolean isAction(int action) {
        return action >= 0 && action < actions.size();
    }

    private String take() {
        String taken = text;
        text = "";
        return taken;
    }

    boolean type(char c) {
        if (c < 32 || c > 126 || text.length() == 64) {
            return false;
        }
        text += c;
        return true;
    }

    String action() {
        if (actions.size() == 12) {
            return STATE;
        }
        actions.add(new Told());
        return String.valueOf(actions.size() - 1);
    }

    void hold() {
        held = take();
    }

    String row(int action, int kind) {
        String taken = take();
        if (!isAction(action) || kind < 0 || kind > 6) {
            return ARGUMENT;
        }
        Told told = actions.get(action);
        boolean path = kind == 1 || kind == 3 || kind == 5;
        if (kind != 0 && !taken.matches(path ? PATH : VALUED)) {
            return ARGUMENT;
        }
        String key = path ? taken : taken.split("=", 2)[0];
        if (told.count() == 24 || kind != 0 && told.keyed.get(kind).containsKey(key)) {
            return STATE;
        }
        if (kind == 0) {
            told.words.add(taken);
        } else {
            told.keyed.get(kind).put(key, path && kind != 5 ? taken + '\0' + sha256(held) : taken);
        }
        return "";
    }

    String edition(int action, int number) {
        if (!isAction(action) || number < 0 || number > 99999999) {
            return ARGUMENT;
        }
        Told told = actions.get(action);
        if (told.edition == null && told.count() == 24) {
            return STATE;
        }
        told.edition = String.format("%08d", number);
        return "";
    }

    String allow() {
        String taken = take();
        if (!taken.matches(NAME)) {
            return ARGUMENT;
        }
        if (allowed.size() == 8 || allowed.contains(taken)) {
            return STATE;
        }
        allowed.add(taken);
        return "";
    }

    String salt() {
        String taken = take();
        if (taken.length() > 16) {
            return ARGUMENT;
        }
        salt = taken;
        return "";
    }

    /** The rows that count, in order, each as it stands in the STABLE TEXT. */
    private List<String> inOrder(int action) {
        Told told = actions.get(action);
        List<String> rows = new ArrayList<>();
        for (String word : told.words) {
            rows.add(row(0, word));
        }
        for (int kind = 1; kind < 7; kind++) {
            for (String key : told.keyed.get(kind).keySet()) {
                if (kind != 2 || allowed.contains(key)) {
                    rows.add(row(kind, told.keyed.get(kind).get(key)));
                }
            }
        }
        if (told.edition != null) {
            rows.add(row(7, told.edition));
        }
        return rows;
    }

    private static String row(int kind, String body) {
        return "" + (char) (48 + kind) + (char) (48 + body.length() / 64) + (char) (48 + body.length() % 64) + body;
    }

    int rows(int action) {
        return isAction(action) ? inOrder(action).size() : -1;
    }

    int kind(int action, int k) {
        return k < 0 || k >= rows(action) ? -1 : inOrder(action).get(k).charAt(0) - 48;
    }

    int size(int action) {
        return isAction(action) ? String.join("", inOrder(action)).length() : -1;
    }

    int character(int action, int k) {
        return k < 0 || k >= size(action) ? -1 : String.join("", inOrder(action)).charAt(k);
    }

    int digest(int action, int part) {
        if (!isAction(action) || part < 0 || part > 7) {
            return 0;
        }
        String digits = sha256(salt + String.join("", inOrder(action)));
        return (int) Long.parseLong(digits.substring(8 * part, 8 * part + 8), 16);
    }

    int differ(int a, int b) {
        if (!isAction(a) || !isAction(b)) {
            return -1;
        }
        List<String> one = inOrder(a);
        List<String> other = inOrder(b);
        for (int k = 0; k < Math.max(one.size(), other.size()); k++) {
            if (k >= one.size() || k >= other.size() || !one.get(k).equals(other.get(k))) {
                return k;
            }
        }
        return -1;
    }
}
