import java.lang.reflect.Constructor;
import java.lang.reflect.Field;
import java.lang.reflect.Method;
import java.lang.reflect.Modifier;
import java.util.Set;
import java.util.TreeSet;

/** The public face: what the document names is there, and nothing else can be seen from outside. */
public final class FaceTest {
    private static final Set<String> FACE = Set.of(
            "int begin()", "int read(int,int)", "int write(int,int,int)", "boolean commit(int)",
            "boolean abort(int)", "boolean force()", "int checkpoint()", "boolean flush(int)",
            "int crash(int)", "int restart(int)", "boolean up()", "int state(int)",
            "int outcome(int)", "int value(int)", "int stored(int)", "int place(int)",
            "int after(int)", "int count(int)", "int page(int,int)");

    public static void main(String[] args) {
        Due due = new Due("FaceTest");
        due.promise("the public face");
        due.is("public final class", LogStore.class.getModifiers(),
                Modifier.PUBLIC | Modifier.FINAL);
        Constructor<?>[] constructors = LogStore.class.getDeclaredConstructors();
        due.is("number of constructors", constructors.length, 1);
        due.is("parameters of the constructor", constructors[0].getParameterCount(), 0);
        due.is("public constructor", Modifier.isPublic(constructors[0].getModifiers()), true);
        Set<String> seen = new TreeSet<>();
        Set<String> names = new TreeSet<>();
        for (Method method : LogStore.class.getDeclaredMethods()) {
            if (!Modifier.isPrivate(method.getModifiers()) && !method.isSynthetic()) {
                seen.add(signature(method));
                names.add(method.getName());
            }
        }
        due.is("methods " + seen, seen.equals(FACE), true);
        for (Method method : LogStore.class.getDeclaredMethods()) {
            if (Modifier.isPrivate(method.getModifiers())) {
                due.is("private " + method, names.contains(method.getName()), false);
            }
        }
        for (Field field : LogStore.class.getDeclaredFields()) {
            due.is("private " + field, Modifier.isPrivate(field.getModifiers()), true);
        }
        due.end();
    }

    private static String signature(Method method) {
        StringBuilder text = new StringBuilder();
        text.append(method.getReturnType().getName()).append(' ').append(method.getName());
        text.append('(');
        for (Class<?> type : method.getParameterTypes()) {
            text.append(text.charAt(text.length() - 1) == '(' ? "" : ",").append(type.getName());
        }
        return text.append(')').toString();
    }
}
