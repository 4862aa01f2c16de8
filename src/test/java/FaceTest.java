import java.lang.reflect.Constructor;
import java.lang.reflect.Field;
import java.lang.reflect.Method;
import java.lang.reflect.Modifier;
import java.util.Arrays;
import java.util.TreeSet;

/** The public face: the class, its constant, every signature and nothing else. */
public final class FaceTest {
    private static final String[] FACE = {
        "void nodes(int) IllegalArgumentException",
        "int edge(int,int,int) IndexOutOfBoundsException,IllegalArgumentException,IllegalStateException",
        "int cut(int,int) IndexOutOfBoundsException,IllegalArgumentException",
        "int port(int,int) IndexOutOfBoundsException",
        "int build(int) IllegalArgumentException,IllegalStateException",
        "int landmark(int) IllegalStateException,IndexOutOfBoundsException",
        "int table(int,int) IllegalStateException,IndexOutOfBoundsException",
        "int row(int,int) IllegalStateException,IndexOutOfBoundsException,IllegalArgumentException",
        "int label(int,int) IllegalStateException,IndexOutOfBoundsException",
        "int tree(int,int,int) IllegalStateException,IndexOutOfBoundsException,IllegalArgumentException",
        "int send(int,int) IllegalStateException,IndexOutOfBoundsException",
        "int hop(int) IllegalArgumentException",
        "int weight(int) IllegalArgumentException",
        "int distance(int,int) IndexOutOfBoundsException",
        "int walk(int,int,int) IllegalStateException,IndexOutOfBoundsException",
    };

    private static final Check CHECK = new Check();

    public static void main(String[] args) {
        CHECK.sentence("The public face: public final class LabelRouter", FaceTest::theClass);
        CHECK.sentence("Terms: NONE = -1", FaceTest::theConstant);
        CHECK.sentence("The public face: its constructor", FaceTest::theConstructor);
        CHECK.sentence("The public face: its methods", FaceTest::methods);
        CHECK.sentence("LANGUAGE.md, rule 1: no other public member", FaceTest::others);
        CHECK.end();
    }

    private static void theClass() {
        int mask = Modifier.PUBLIC | Modifier.FINAL | Modifier.ABSTRACT;
        CHECK.is("its modifiers", LabelRouter.class.getModifiers() & mask,
                Modifier.PUBLIC | Modifier.FINAL);
    }

    private static void theConstant() {
        CHECK.is("NONE", LabelRouter.NONE, -1);
    }

    private static void theConstructor() {
        Constructor<?>[] made = LabelRouter.class.getDeclaredConstructors();
        CHECK.is("constructors", made.length, 1);
        CHECK.is("parameters of the constructor", made[0].getParameterCount(), 0);
        CHECK.holds("the constructor is public", Modifier.isPublic(made[0].getModifiers()));
    }

    private static void methods() {
        TreeSet<String> seen = new TreeSet<>();
        for (Method method : LabelRouter.class.getDeclaredMethods()) {
            if (Modifier.isPublic(method.getModifiers())) {
                seen.add(signature(method));
            }
        }
        CHECK.same("the public methods", seen.toString(), new TreeSet<>(Arrays.asList(FACE)).toString());
    }

    private static void others() {
        TreeSet<String> names = new TreeSet<>();
        for (Method method : LabelRouter.class.getDeclaredMethods()) {
            if (Modifier.isPublic(method.getModifiers())) {
                names.add(method.getName());
            }
        }
        for (Method method : LabelRouter.class.getDeclaredMethods()) {
            if (!Modifier.isPublic(method.getModifiers()) && !method.isSynthetic()) {
                CHECK.holds(method + " is private", Modifier.isPrivate(method.getModifiers()));
                CHECK.holds(method + " has a name of its own", !names.contains(method.getName()));
            }
        }
        for (Field field : LabelRouter.class.getDeclaredFields()) {
            if (!field.getName().equals("NONE")) {
                CHECK.holds(field + " is private", Modifier.isPrivate(field.getModifiers()));
            }
        }
    }

    private static String signature(Method method) {
        StringBuilder text = new StringBuilder();
        text.append(method.getReturnType().getSimpleName()).append(' ').append(method.getName());
        text.append('(').append(joined(method.getParameterTypes())).append(") ");
        return text.append(joined(method.getExceptionTypes())).toString();
    }

    private static String joined(Class<?>[] types) {
        StringBuilder text = new StringBuilder();
        for (Class<?> type : types) {
            text.append(text.length() == 0 ? "" : ",").append(type.getSimpleName());
        }
        return text.toString();
    }
}
