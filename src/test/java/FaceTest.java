import java.lang.reflect.Constructor;
import java.lang.reflect.Field;
import java.lang.reflect.Member;
import java.lang.reflect.Method;
import java.lang.reflect.Modifier;
import java.util.Arrays;
import java.util.TreeSet;

/** The face is the document's, and nothing else of the class can be seen from outside. */
public final class FaceTest {
    private static final String ARGUMENT = "IllegalArgumentException";
    private static final String STATE = "IllegalStateException";
    private static final String ELEMENT = "NoSuchElementException";

    private static final String[] FACE = {
        "int machine(int, int, int) throws " + ARGUMENT + ", " + STATE,
        "void move(int, int) throws " + ARGUMENT + ", " + STATE,
        "void send(int, int, int) throws " + ARGUMENT + ", " + STATE,
        "void link(int, boolean) throws " + ARGUMENT + ", " + STATE,
        "boolean directory(boolean)",
        "int lose(int) throws " + ARGUMENT,
        "int run(int) throws " + ARGUMENT,
        "int now()",
        "int distance(int, int) throws " + ARGUMENT,
        "int hop(int, int, int) throws " + ARGUMENT + ", " + ELEMENT,
        "int packets()",
        "int dropped()",
        "int header(int, int) throws " + ARGUMENT + ", " + ELEMENT,
        "int entry(int, int, int) throws " + ARGUMENT + ", " + ELEMENT,
        "int known(int, int) throws " + ARGUMENT + ", " + ELEMENT,
        "int row(int) throws " + ARGUMENT,
        "int received(int, int) throws " + ARGUMENT,
        "int value(int, int) throws " + ARGUMENT + ", " + ELEMENT};

    public static void main(String[] args) {
        theClass();
        theMethods();
        theConstructor();
        noFieldIsSeen();
        classesInsideAreNot();
        Check.end();
    }

    private static void theClass() {
        int seen = OverlayNet.class.getModifiers();
        Check.due("public and final", Modifier.isPublic(seen) && Modifier.isFinal(seen), true);
        Check.due("package", OverlayNet.class.getPackageName(), "");
        Check.due("extends", OverlayNet.class.getSuperclass(), Object.class);
        Check.due("implements", OverlayNet.class.getInterfaces().length, 0);
    }

    private static void theMethods() {
        TreeSet<String> found = new TreeSet<>();
        TreeSet<String> hidden = new TreeSet<>();
        for (Method method : OverlayNet.class.getDeclaredMethods()) {
            if (isPrivate(method)) {
                hidden.add(method.getName());
            } else {
                found.add(told(method));
            }
        }
        Check.due("methods", found, new TreeSet<>(Arrays.asList(FACE)));
        for (String face : FACE) {
            String name = face.substring(face.indexOf(' ') + 1, face.indexOf('('));
            Check.due("a private method named " + name, hidden.contains(name), false);
        }
    }

    private static String told(Method method) {
        StringBuilder text = new StringBuilder();
        int seen = method.getModifiers();
        text.append(Modifier.isPublic(seen) && !Modifier.isStatic(seen) ? "" : "static or not public: ");
        text.append(method.getReturnType()).append(' ').append(method.getName());
        text.append('(').append(joined(method.getParameterTypes())).append(')');
        Class<?>[] thrown = method.getExceptionTypes();
        return text.append(thrown.length == 0 ? "" : " throws " + joined(thrown)).toString();
    }

    private static String joined(Class<?>[] types) {
        StringBuilder text = new StringBuilder();
        for (Class<?> type : types) {
            text.append(text.length() == 0 ? "" : ", ").append(type.getSimpleName());
        }
        return text.toString();
    }

    private static void theConstructor() {
        Constructor<?>[] made = OverlayNet.class.getDeclaredConstructors();
        Check.due("constructors", made.length, 1);
        Check.due("the constructor is public", Modifier.isPublic(made[0].getModifiers()), true);
        Check.due("its parameters", made[0].getParameterCount(), 0);
        Check.due("what it throws", made[0].getExceptionTypes().length, 0);
    }

    private static void noFieldIsSeen() {
        for (Field field : OverlayNet.class.getDeclaredFields()) {
            Check.due(field.getName() + " is private", isPrivate(field), true);
            Check.due(field.getName() + " is no static state",
                    Modifier.isStatic(field.getModifiers()) && !Modifier.isFinal(field.getModifiers()), false);
        }
    }

    private static void classesInsideAreNot() {
        for (Class<?> inside : OverlayNet.class.getDeclaredClasses()) {
            int seen = inside.getModifiers();
            Check.due(inside + " is public or protected", Modifier.isPublic(seen) || Modifier.isProtected(seen), false);
            Check.due(inside + " is static", Modifier.isStatic(seen), true);
        }
    }

    private static boolean isPrivate(Member member) {
        return Modifier.isPrivate(member.getModifiers());
    }
}
