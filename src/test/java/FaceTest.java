import java.lang.reflect.Constructor;
import java.lang.reflect.Field;
import java.lang.reflect.Method;
import java.lang.reflect.Modifier;
import java.util.Set;
import java.util.TreeSet;

/** The class has the document's face and shows nothing else. */
public final class FaceTest {
    private static final Set<String> FACE = Set.of(
        "public static final int ActionDigests.NONE",
        "public ActionDigests()",
        "public boolean ActionDigests.type(char)",
        "public int ActionDigests.action() throws java.lang.IllegalStateException",
        "public void ActionDigests.hold()",
        "public void ActionDigests.row(int,int) throws java.lang.IllegalArgumentException,java.lang.IllegalStateException",
        "public void ActionDigests.edition(int,int) throws java.lang.IllegalArgumentException,java.lang.IllegalStateException",
        "public void ActionDigests.allow() throws java.lang.IllegalArgumentException,java.lang.IllegalStateException",
        "public void ActionDigests.salt() throws java.lang.IllegalArgumentException",
        "public int ActionDigests.rows(int)",
        "public int ActionDigests.kind(int,int)",
        "public int ActionDigests.size(int)",
        "public int ActionDigests.character(int,int)",
        "public int ActionDigests.digest(int,int)",
        "public int ActionDigests.differ(int,int)",
        "public int ActionDigests.constant(int)");

    public static void main(String[] args) {
        Check check = new Check();
        Class<?> face = ActionDigests.class;
        Set<String> shown = new TreeSet<>();
        Set<String> publicNames = new TreeSet<>();
        for (Field field : face.getDeclaredFields()) {
            if (!Modifier.isPrivate(field.getModifiers())) {
                shown.add(field.toString());
            }
            boolean changing = Modifier.isStatic(field.getModifiers()) && !Modifier.isFinal(field.getModifiers());
            check.due("static and not final: " + field, changing, false);
        }
        for (Constructor<?> constructor : face.getDeclaredConstructors()) {
            shown.add(constructor.toString());
        }
        for (Method method : face.getDeclaredMethods()) {
            if (!Modifier.isPrivate(method.getModifiers())) {
                shown.add(method.toString());
                publicNames.add(method.getName());
            }
        }
        check.due("what the class shows", shown, new TreeSet<>(FACE));
        for (Method method : face.getDeclaredMethods()) {
            boolean twice = Modifier.isPrivate(method.getModifiers()) && publicNames.contains(method.getName());
            check.due("private and named as a public one: " + method, twice, false);
        }
        for (Class<?> inside : face.getDeclaredClasses()) {
            int modifiers = inside.getModifiers();
            check.due("public or protected: " + inside, Modifier.isPublic(modifiers) || Modifier.isProtected(modifiers), false);
            check.due("static: " + inside, Modifier.isStatic(modifiers), true);
        }
        check.due("modifiers of the class", Modifier.toString(face.getModifiers()), "public final");
        check.end();
    }
}
