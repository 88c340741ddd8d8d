import java.lang.reflect.Constructor;
import java.lang.reflect.Field;
import java.lang.reflect.Member;
import java.lang.reflect.Method;
import java.lang.reflect.Modifier;
import java.util.Set;
import java.util.TreeSet;

/**
 * The public face: the document's constants, constructor and methods and nothing else, and the
 * classes inside as LANGUAGE.md's rule 1 has them.
 */
public final class FaceTest {
    private static final Set<String> METHODS = Set.of(
        "boolean add(int,int,long)", "boolean edit(int,int,long)", "boolean remove(int,int)",
        "int commit(int,int)", "int update(int,int,int)", "boolean tag(int,int,int,boolean)",
        "int bring(int,long)", "int entry(int,int)", "boolean removed(int,int)",
        "long local(int,int)", "int selected(int,int)", "int sticky(int,int)",
        "int revisions(int)", "int number(int,int,int)", "long content(int,int)",
        "boolean dead(int,int)", "int kept(int,int)", "int named(int,int)", "int standard(int)");
    private static final Set<String> CONSTANTS = Set.of(
        "NONE", "ADDED", "STICKY", "STALE", "UNCHANGED", "MARKED", "FULL");

    private static final Check CHECK = new Check();

    public static void main(String[] args) {
        constants();
        members();
        classesInside();
        CHECK.end();
    }

    private static void constants() {
        CHECK.due("NONE", RevisionStore.NONE, -1);
        CHECK.due("ADDED", RevisionStore.ADDED, -2);
        CHECK.due("STICKY", RevisionStore.STICKY, -3);
        CHECK.due("STALE", RevisionStore.STALE, -4);
        CHECK.due("UNCHANGED", RevisionStore.UNCHANGED, -5);
        CHECK.due("MARKED", RevisionStore.MARKED, -6);
        CHECK.due("FULL", RevisionStore.FULL, -7);
    }

    private static void members() {
        Class<?> face = RevisionStore.class;
        CHECK.yes("the class is final", Modifier.isFinal(face.getModifiers()));
        CHECK.yes("the class is public", Modifier.isPublic(face.getModifiers()));
        Set<String> methods = new TreeSet<>();
        for (Method method : face.getDeclaredMethods()) {
            if (isShown(method)) {
                methods.add(described(method));
            } else {
                CHECK.no("the private " + method.getName() + " bears a public name",
                    isPublicName(method.getName()));
            }
        }
        CHECK.yes("the methods are the document's: " + methods, methods.equals(METHODS));
        Set<String> constants = new TreeSet<>();
        for (Field field : face.getDeclaredFields()) {
            if (isShown(field)) {
                constants.add(field.getName());
                CHECK.yes(field.getName() + " is a constant", field.getType() == int.class
                    && Modifier.isStatic(field.getModifiers())
                    && Modifier.isFinal(field.getModifiers()));
            }
        }
        CHECK.yes("the constants are the document's: " + constants, constants.equals(CONSTANTS));
        Constructor<?>[] constructors = face.getDeclaredConstructors();
        CHECK.due("constructors", constructors.length, 1);
        CHECK.due("its parameters", constructors[0].getParameterCount(), 0);
        CHECK.yes("it is public", Modifier.isPublic(constructors[0].getModifiers()));
    }

    private static void classesInside() {
        for (Class<?> inside : RevisionStore.class.getDeclaredClasses()) {
            String name = inside.getSimpleName();
            int modifiers = inside.getModifiers();
            CHECK.yes(name + " is static", Modifier.isStatic(modifiers));
            CHECK.no(name + " is public or protected",
                Modifier.isPublic(modifiers) || Modifier.isProtected(modifiers));
            for (Method method : inside.getDeclaredMethods()) {
                CHECK.no(name + "'s " + method.getName() + " bears a public name",
                    isPublicName(method.getName()));
            }
        }
    }

    private static boolean isShown(Member member) {
        return !Modifier.isPrivate(member.getModifiers());
    }

    private static boolean isPublicName(String name) {
        for (String method : METHODS) {
            if (method.contains(" " + name + "(")) {
                return true;
            }
        }
        return false;
    }

    private static String described(Method method) {
        StringBuilder words = new StringBuilder();
        words.append(method.getReturnType()).append(' ').append(method.getName()).append('(');
        Class<?>[] parameters = method.getParameterTypes();
        for (int i = 0; i < parameters.length; i++) {
            words.append(i == 0 ? "" : ",").append(parameters[i]);
        }
        return words.append(')').toString();
    }
}
