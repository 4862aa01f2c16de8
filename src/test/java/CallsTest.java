import java.lang.reflect.InvocationTargetException;
import java.lang.reflect.Method;
import java.lang.reflect.Modifier;
import java.util.Arrays;
import java.util.Comparator;
import java.util.List;
import java.util.Random;

/** How often an object can be called, and with what. */
public final class CallsTest {
    private static final Check CHECK = new Check();
    private static final int CALLS = 512;

    public static void main(String[] args) {
        CHECK.sentence("What it is: An object is used for at most 512 calls after it has been made",
                CallsTest::lastCalls);
        CHECK.sentence("What it is: at most 512 calls, all of one kind", CallsTest::manyOfOneKind);
        CHECK.sentence("Not promised: nothing about an object after its 512th call (but LANGUAGE.md, "
                + "rule 7: no call may ever throw by itself)", CallsTest::afterTheLast);
        CHECK.sentence("The public face: a call throws nothing but what stands behind it",
                CallsTest::anyArguments);
        CHECK.end();
    }

    /** An object for which one call is left; its packet 8 was sent from 0 to 4. */
    private static LabelRouter oneCallLeft() {
        LabelRouter x = Nets.builtLine();
        // The line took nodes, four edges and build.
        for (int call = 6; call < CALLS - 1; call++) {
            x.send(0, 4);
        }
        return x;
    }

    private interface LastCall {
        int run(LabelRouter x);
    }

    private static void last(int due, String what, LastCall call) {
        LabelRouter x = oneCallLeft();
        CHECK.answers(due, "call 512: " + what, () -> call.run(x));
    }

    private static void lastCalls() {
        last(0, "nodes(3)", x -> {
            x.nodes(3);
            return 0;
        });
        last(1, "edge(0, 4, 1)", x -> x.edge(0, 4, 1));
        last(1, "cut(0, 1)", x -> x.cut(0, 1));
        last(0, "port(1, 1)", x -> x.port(1, 1));
        last(5, "build(1)", x -> x.build(1));
        last(3, "landmark(1)", x -> x.landmark(1));
        last(3, "table(0, 0)", x -> x.table(0, 0));
        last(1, "row(2, 3)", x -> x.row(2, 3));
        last(4, "label(0, 2)", x -> x.label(0, 2));
        last(3, "tree(1, 2, 1)", x -> x.tree(1, 2, 1));
        last(9, "send(0, 4)", x -> x.send(0, 4));
        last(1, "hop(8)", x -> x.hop(8));
        last(0, "weight(8)", x -> x.weight(8));
        last(4, "distance(0, 4)", x -> x.distance(0, 4));
        last(4, "walk(0, 4, 0)", x -> x.walk(0, 4, 0));
    }

    private static void manyOfOneKind() {
        LabelRouter built = Nets.ring(40, 1);
        for (int call = 41; call < CALLS - 1; call++) {
            built.build(1 + call % 40);
        }
        CHECK.answers(40, "a last build", () -> built.build(1));
        LabelRouter cut = new LabelRouter();
        cut.nodes(40);
        for (int call = 1; call < CALLS - 1; call += 2) {
            cut.edge(0, 39, 1 + call);
            CHECK.is("a cut", cut.cut(0, 39), 1 + call);
        }
        CHECK.answers(0, "a last edge", () -> cut.edge(39, 0, 1));
        LabelRouter emptied = new LabelRouter();
        for (int call = 0; call < CALLS - 1; call++) {
            emptied.nodes(1 + call % 40);
        }
        CHECK.answers(0, "a last distance", () -> emptied.distance(30, 30));
        LabelRouter hopped = Nets.builtLine();
        hopped.send(0, 4);
        for (int call = 7; call < CALLS - 1; call++) {
            hopped.hop(0);
        }
        CHECK.answers(4, "a last weight", () -> hopped.weight(0));
    }

    private static void afterTheLast() {
        callAtRandom(new LabelRouter(), new Random(1), 5000);
        callAtRandom(Nets.builtLine(), new Random(2), 5000);
    }

    private static void anyArguments() {
        for (int seed = 0; seed < 100; seed++) {
            callAtRandom(new LabelRouter(), new Random(seed), CALLS);
            callAtRandom(Nets.builtLine(), new Random(seed), CALLS - 6);
            callAtRandom(Nets.ring(40, 1), new Random(seed), CALLS - 41);
        }
    }

    private static void callAtRandom(LabelRouter x, Random random, int calls) {
        List<Method> methods = Arrays.asList(LabelRouter.class.getDeclaredMethods()).stream()
                .filter(method -> Modifier.isPublic(method.getModifiers()))
                .sorted(Comparator.comparing(Method::getName)).toList();
        for (int call = 0; call < calls; call++) {
            Method method = methods.get(random.nextInt(methods.size()));
            // Few calls empty the network, so that there is mostly one.
            boolean again = method.getName().equals("nodes") && random.nextInt(8) != 0;
            callAnyhow(x, again ? methods.get(random.nextInt(methods.size())) : method, random);
        }
    }

    private static void callAnyhow(LabelRouter x, Method method, Random random) {
        Object[] arguments = new Object[method.getParameterCount()];
        for (int i = 0; i < arguments.length; i++) {
            arguments[i] = anyNumber(random);
        }
        String what = method.getName() + Arrays.toString(arguments);
        try {
            method.invoke(x, arguments);
            CHECK.holds(what, true);
        } catch (InvocationTargetException e) {
            Class<?> thrown = e.getCause().getClass();
            CHECK.holds(what + " may throw " + thrown,
                    Arrays.asList(method.getExceptionTypes()).contains(thrown));
        } catch (IllegalAccessException e) {
            throw new IllegalStateException(e);
        }
    }

    private static int anyNumber(Random random) {
        int[] far = {-1, 15, 16, 39, 40, 41, 1000, 1001, Integer.MIN_VALUE, Integer.MAX_VALUE};
        int kind = random.nextInt(20);
        return kind == 0 ? far[random.nextInt(far.length)] : kind == 1 ? random.nextInt()
                : random.nextInt(kind < 12 ? 5 : 40);
    }
}
