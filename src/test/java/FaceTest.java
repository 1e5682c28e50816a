import java.lang.reflect.Constructor;
import java.lang.reflect.Field;
import java.lang.reflect.Method;
import java.lang.reflect.Modifier;
import java.util.Set;
import java.util.TreeSet;

/** The face is the document's and no more, and what reflection can see of LANGUAGE.md's rules holds. */
public final class FaceTest {
    private static final Set<String> FACE = Set.of(
        "public int UndoWorks.node(int,int,int,int) throws java.lang.IllegalArgumentException,java.lang.IllegalStateException",
        "public void UndoWorks.clear(int) throws java.lang.IllegalArgumentException",
        "public int UndoWorks.run(int) throws java.lang.IllegalArgumentException,java.lang.IllegalStateException",
        "public int UndoWorks.given()",
        "public int UndoWorks.number(int) throws java.lang.IllegalArgumentException",
        "public int UndoWorks.row(int) throws java.lang.IllegalArgumentException",
        "public int UndoWorks.log(int) throws java.lang.IllegalArgumentException",
        "public int UndoWorks.count(int)");
    private static final Checks checks = new Checks();

    private FaceTest() {
    }

    public static void main(String[] args) {
        methods();
        checks.holds("public and final", Modifier.isPublic(UndoWorks.class.getModifiers())
            && Modifier.isFinal(UndoWorks.class.getModifiers()));
        Constructor<?>[] constructors = UndoWorks.class.getDeclaredConstructors();
        checks.same("constructors", 1, constructors.length);
        checks.holds("the constructor is public and takes nothing",
            Modifier.isPublic(constructors[0].getModifiers()) && constructors[0].getParameterCount() == 0);
        fields(UndoWorks.class, true);
        for (Class<?> inside : UndoWorks.class.getDeclaredClasses()) {
            checks.holds(inside.getName() + " is static and not public", Modifier.isStatic(inside.getModifiers())
                && !Modifier.isPublic(inside.getModifiers()) && !Modifier.isProtected(inside.getModifiers()));
            fields(inside, false);
        }
        checks.finish();
    }

    private static void methods() {
        Set<String> names = new TreeSet<>();
        Set<String> seen = new TreeSet<>();
        for (Method method : UndoWorks.class.getDeclaredMethods()) {
            if (!Modifier.isPrivate(method.getModifiers())) {
                seen.add(method.toString());
                names.add(method.getName());
            }
        }
        checks.holds("the face is the document's: " + seen, seen.equals(FACE));
        for (Method method : UndoWorks.class.getDeclaredMethods()) {
            checks.holds(method.getName() + " is of the face or has a name of its own",
                !Modifier.isPrivate(method.getModifiers()) || !names.contains(method.getName()));
            checks.holds(method.getName() + " has at most seven parameters", method.getParameterCount() <= 7);
        }
    }

    private static void fields(Class<?> of, boolean allPrivate) {
        int own = 0;
        for (Field field : of.getDeclaredFields()) {
            boolean isStatic = Modifier.isStatic(field.getModifiers());
            checks.holds(of.getName() + "." + field.getName() + " is final if it's static",
                !isStatic || Modifier.isFinal(field.getModifiers()));
            checks.holds(of.getName() + "." + field.getName() + " is private",
                !allPrivate || Modifier.isPrivate(field.getModifiers()));
            own += isStatic ? 0 : 1;
        }
        checks.holds(of.getName() + " has some twenty fields at most", own <= 20);
    }
}
