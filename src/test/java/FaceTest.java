import java.lang.reflect.Constructor;
import java.lang.reflect.Field;
import java.lang.reflect.Method;
import java.lang.reflect.Modifier;
import java.util.Set;
import java.util.TreeSet;

/** "The public face": what it shows, with its throws clauses, and nothing else. */
final class FaceTest {
    private static final String INDEX = " IndexOutOfBoundsException";
    private static final String ARGUMENT = " IllegalArgumentException";
    private static final String STATE = " IllegalStateException";
    private static final String[] FACE = {
        "void setPath(int,int,int,int,int)" + INDEX + ARGUMENT,
        "boolean setUp(int,boolean)" + INDEX,
        "void lose(int,boolean,int)" + INDEX + ARGUMENT,
        "void late(int,int,int)" + INDEX + ARGUMENT,
        "int foreign(int,int)" + INDEX + ARGUMENT,
        "boolean setCookies(boolean)",
        "int read(int,int)" + INDEX + ARGUMENT,
        "void loseState()",
        "void connect(int)" + ARGUMENT + STATE,
        "int write(int,int)" + INDEX + ARGUMENT + STATE,
        "int setWay(int,int)" + INDEX + ARGUMENT,
        "void check(int)" + INDEX + STATE,
        "int use(int)" + ARGUMENT + STATE,
        "int changeKey()" + STATE,
        "void close()" + STATE,
        "int tick(int)" + ARGUMENT + STATE,
        "int now()",
        "int state(int)" + ARGUMENT,
        "int path(int,int)" + INDEX + ARGUMENT,
        "int stream(int,int)" + INDEX + ARGUMENT,
        "int credit()",
        "int packets()",
        "int packet(int,int)" + INDEX + ARGUMENT,
        "int count(int)" + ARGUMENT,
        "int inFlightAnew(int)" + INDEX,
        "int gotAnew(int)" + INDEX};

    private FaceTest() {
    }

    public static void main(String[] args) {
        Class<?> face = Tidewater.class;
        Checks.due("public and final", face.getModifiers() & (Modifier.PUBLIC | Modifier.FINAL),
                Modifier.PUBLIC | Modifier.FINAL);
        Set<String> due = new TreeSet<>(java.util.List.of(FACE));
        for (Method method : face.getDeclaredMethods()) {
            if (!Modifier.isPrivate(method.getModifiers()) && !due.remove(text(method))) {
                Checks.due("not of the face: " + text(method), 1, 0);
            }
        }
        for (String missing : due) {
            Checks.due("missing: " + missing, 0, 1);
        }
        for (Field field : face.getDeclaredFields()) {
            Checks.due("private: " + field.getName(), Modifier.isPrivate(field.getModifiers()), true);
        }
        for (Constructor<?> constructor : face.getDeclaredConstructors()) {
            Checks.due("public constructor", Modifier.isPublic(constructor.getModifiers()), true);
            Checks.due("without arguments", constructor.getParameterCount(), 0);
        }
        Checks.due("constructors", face.getDeclaredConstructors().length, 1);
        Checks.end("FaceTest");
    }

    private static String text(Method method) {
        StringBuilder text = new StringBuilder();
        text.append(method.getReturnType().getSimpleName()).append(' ').append(method.getName()).append('(');
        for (Class<?> type : method.getParameterTypes()) {
            text.append(text.charAt(text.length() - 1) == '(' ? "" : ",").append(type.getSimpleName());
        }
        text.append(')');
        for (Class<?> type : method.getExceptionTypes()) {
            text.append(' ').append(type.getSimpleName());
        }
        return text.toString();
    }
}
