import java.lang.reflect.Constructor;
import java.lang.reflect.Field;
import java.lang.reflect.Method;
import java.lang.reflect.Modifier;
import java.util.Arrays;
import java.util.TreeSet;

/** The public face: the class, its constant, every signature and nothing else. */
public final class FaceTest {
    private static final String[] FACE = {
        "void nodes(int) IllegalArgumentException",
        "int edge(int,int,int) IndexOutOfBoundsException,IllegalArgumentException,IllegalStateException",
        "int cut(int,int) IndexOutOfBoundsException,IllegalArgumentException",
        "int port(int,int) IndexOutOfBoundsException",
        "int build(int) IllegalArgumentException,IllegalStateException",
        "int landmark(int) IllegalStateException,IndexOutOfBoundsException",
        "int table(int,int) IllegalStateException,IndexOutOfBoundsException",
        "int row(int,int) IllegalStateException,IndexOutOfBoundsException,IllegalArgumentException",
        "int label(int,int) IllegalStateException,IndexOutOfBoundsException",
        "int tree(int,int,int) IllegalStateException,IndexOutOfBoundsException,IllegalArgumentException",
        "int send(int,int) IllegalStateException,IndexOutOfBoundsException",
        "int hop(int) IllegalArgumentException",
        "int weight(int) IllegalArgumentException",
        "int distance(int,int) IndexOutOfBoundsException",
        "int walk(int,int,int) IllegalStateException,IndexOutOfBoundsException",
    };

    public static void main(String[] args) {
        Check check = new Check();
        int mask = Modifier.PUBLIC | Modifier.FINAL | Modifier.ABSTRACT;
        check.is("LabelRouter is public and final", LabelRouter.class.getModifiers() & mask,
                Modifier.PUBLIC | Modifier.FINAL);
        check.is("NONE", LabelRouter.NONE, -1);
        methods(check);
        fields(check);
        Constructor<?>[] made = LabelRouter.class.getDeclaredConstructors();
        check.is("constructors", made.length, 1);
        check.is("parameters of the constructor", made[0].getParameterCount(), 0);
        check.holds("the constructor is public", Modifier.isPublic(made[0].getModifiers()));
        check.end();
    }

    private static void methods(Check check) {
        TreeSet<String> names = new TreeSet<>();
        TreeSet<String> seen = new TreeSet<>();
        for (Method method : LabelRouter.class.getDeclaredMethods()) {
            if (Modifier.isPublic(method.getModifiers())) {
                seen.add(signature(method));
                names.add(method.getName());
            }
        }
        check.same("the public methods", seen.toString(), new TreeSet<>(Arrays.asList(FACE)).toString());
        for (Method method : LabelRouter.class.getDeclaredMethods()) {
            if (!Modifier.isPublic(method.getModifiers()) && !method.isSynthetic()) {
                check.holds(method + " is private", Modifier.isPrivate(method.getModifiers()));
                check.holds(method + " has a name of its own", !names.contains(method.getName()));
            }
        }
    }

    private static String signature(Method method) {
        StringBuilder text = new StringBuilder();
        text.append(method.getReturnType().getSimpleName()).append(' ').append(method.getName());
        text.append('(').append(joined(method.getParameterTypes())).append(") ");
        return text.append(joined(method.getExceptionTypes())).toString();
    }

    private static String joined(Class<?>[] types) {
        StringBuilder text = new StringBuilder();
        for (Class<?> type : types) {
            text.append(text.length() == 0 ? "" : ",").append(type.getSimpleName());
        }
        return text.toString();
    }

    private static void fields(Check check) {
        for (Field field : LabelRouter.class.getDeclaredFields()) {
            if (!field.getName().equals("NONE")) {
                check.holds(field + " is private", Modifier.isPrivate(field.getModifiers()));
            }
        }
    }
}
