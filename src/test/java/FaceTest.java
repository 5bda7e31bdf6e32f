import java.lang.reflect.Constructor;
import java.lang.reflect.Field;
import java.lang.reflect.Method;
import java.lang.reflect.Modifier;
import java.util.Set;
import java.util.TreeSet;

/** The public face is that of the document, no more and no less. */
public final class FaceTest {
    private static final Set<String> FACE = Set.of(
        "public static final int REFUSED",
        "public static final int DONE",
        "public static final int BLOCKED",
        "public static final int TIMED_OUT",
        "public static final long NONE",
        "public PriorityKernel(int,int)",
        "public int spawn(int,boolean)",
        "public int priority(int,int)",
        "public int pass()",
        "public int lock(int)",
        "public int unlock(int)",
        "public int await(int,int,int)",
        "public int signal(int,boolean)",
        "public int down(int,int)",
        "public int post(int)",
        "public int send(int,int,int)",
        "public int receive(int)",
        "public int sleep(int)",
        "public int join(int)",
        "public int exit(int)",
        "public int tick(int)",
        "public int running()",
        "public long tell(int,int)",
        "public int owner(int)",
        "public int count(int)");

    private FaceTest() {
    }

    public static void main(String[] args) {
        constants();
        members();
        Check.due("the class is public and final", PriorityKernel.class.getModifiers(), Modifier.PUBLIC | Modifier.FINAL);
        for (Class<?> inside : PriorityKernel.class.getDeclaredClasses()) {
            int modifiers = inside.getModifiers();
            boolean fine = Modifier.isStatic(modifiers) && !Modifier.isPublic(modifiers) && !Modifier.isProtected(modifiers);
            Check.due(inside + " is static and not public", fine ? 1 : 0, 1);
        }
        Check.end();
    }

    private static void constants() {
        Check.due("REFUSED", PriorityKernel.REFUSED, -1);
        Check.due("DONE", PriorityKernel.DONE, 0);
        Check.due("BLOCKED", PriorityKernel.BLOCKED, 1);
        Check.due("TIMED_OUT", PriorityKernel.TIMED_OUT, 2);
        Check.due("NONE", PriorityKernel.NONE, 1000000000000L);
    }

    private static void members() {
        Set<String> open = new TreeSet<>();
        Set<String> openNames = new TreeSet<>();
        for (Field field : PriorityKernel.class.getDeclaredFields()) {
            if (!Modifier.isPrivate(field.getModifiers())) {
                open.add(plain(field.toString()));
            }
        }
        for (Constructor<?> constructor : PriorityKernel.class.getDeclaredConstructors()) {
            if (!Modifier.isPrivate(constructor.getModifiers())) {
                open.add(plain(constructor.toString()));
            }
        }
        for (Method method : PriorityKernel.class.getDeclaredMethods()) {
            if (!Modifier.isPrivate(method.getModifiers())) {
                open.add(plain(method.toString()));
                openNames.add(method.getName());
            }
        }
        for (String member : FACE) {
            Check.due("the face has " + member, open.contains(member) ? 1 : 0, 1);
        }
        for (String member : open) {
            Check.due("the document has " + member, FACE.contains(member) ? 1 : 0, 1);
        }
        for (Method method : PriorityKernel.class.getDeclaredMethods()) {
            boolean clash = Modifier.isPrivate(method.getModifiers()) && openNames.contains(method.getName());
            Check.due("a private " + method.getName() + " beside the public one", clash ? 1 : 0, 0);
        }
    }

    private static String plain(String member) {
        return member.replace("PriorityKernel.", "");
    }
}
