import java.lang.reflect.Constructor;
import java.lang.reflect.Field;
import java.lang.reflect.Method;
import java.lang.reflect.Modifier;
import java.util.Arrays;
import java.util.TreeSet;

/** The face is the document's, and nothing else of the class can be seen from outside. */
public final class FaceTest {
    private static final String[] FACE = {
        "boolean directory(boolean)", "int distance(int,int)", "int dropped()",
        "int entry(int,int,int)", "int header(int,int)", "int hop(int,int,int)",
        "int known(int,int)", "int lose(int)", "int machine(int,int,int)", "int now()",
        "int packets()", "int received(int,int)", "int row(int)", "int run(int)",
        "int value(int,int)", "void link(int,boolean)", "void move(int,int)", "void send(int,int,int)"};

    public static void main(String[] args) {
        int seen = OverlayNet.class.getModifiers();
        Check.due("public and final", Modifier.isPublic(seen) && Modifier.isFinal(seen), true);
        TreeSet<String> found = new TreeSet<>();
        TreeSet<String> names = new TreeSet<>();
        for (Method method : OverlayNet.class.getDeclaredMethods()) {
            if (Modifier.isPrivate(method.getModifiers())) {
                names.add(method.getName());
            } else {
                found.add(told(method));
            }
        }
        Check.due("methods", found, new TreeSet<>(Arrays.asList(FACE)));
        for (String face : FACE) {
            String name = face.substring(face.indexOf(' ') + 1, face.indexOf('('));
            Check.due("a private method named " + name, names.contains(name), false);
        }
        for (Field field : OverlayNet.class.getDeclaredFields()) {
            Check.due(field.getName() + " is private", Modifier.isPrivate(field.getModifiers()), true);
            Check.due(field.getName() + " is no static state",
                    Modifier.isStatic(field.getModifiers()) && !Modifier.isFinal(field.getModifiers()), false);
        }
        Constructor<?>[] made = OverlayNet.class.getDeclaredConstructors();
        Check.due("constructors", made.length, 1);
        Check.due("the constructor", Modifier.isPublic(made[0].getModifiers()) && made[0].getParameterCount() == 0,
                true);
        Check.end();
    }

    private static String told(Method method) {
        StringBuilder text = new StringBuilder();
        text.append(Modifier.isPublic(method.getModifiers()) ? "" : "not public: ");
        text.append(method.getReturnType()).append(' ').append(method.getName()).append('(');
        for (Class<?> type : method.getParameterTypes()) {
            text.append(text.charAt(text.length() - 1) == '(' ? "" : ",").append(type);
        }
        return text.append(')').toString();
    }
}
