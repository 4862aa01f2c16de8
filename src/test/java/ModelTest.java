import java.util.Random;

/** All promises: long runs of calls, each answer held against the model's. */
public final class ModelTest {
    private static final int RUNS = 400;
    private static final int CALLS = 512;

    private final Check check;
    private final Random random;
    private final LabelRouter program = new LabelRouter();
    private final Model model = new Model();
    private int n = 1;
    private int most = 5;
    private int calls;

    private ModelTest(Check check, long seed) {
        this.check = check;
        this.random = new Random(seed);
    }

    public static void main(String[] args) {
        Check check = new Check();
        for (int run = 0; run < RUNS; run++) {
            new ModelTest(check, run).run();
        }
        whole(check, Crowds.TWO_CROWDED, 5, 1);
        whole(check, Crowds.CROWDED_TWICE, 4, 2);
        whole(check, Crowds.AS_CROWDED_AS_MAY_BE, 4, 0);
        check.end();
    }

    /** Nothing is promised after the last call that an object is used for. */
    private void compare(String what, Check.Call got, Check.Call due) {
        if (calls == CALLS) {
            return;
        }
        calls++;
        check.same(what, Check.outcome(got), Check.outcome(due));
    }

    private void run() {
        startNetwork();
        while (calls < CALLS) {
            int kind = random.nextInt(40);
            if (kind == 0 && random.nextInt(8) == 0) {
                startNetwork();
            } else if (kind < 5) {
                changeEdge();
            } else if (kind < 7) {
                build();
            } else {
                ask(kind);
            }
        }
    }

    private void startNetwork() {
        setNodes(random.nextInt(6) == 0 ? random.nextInt(50) - 5 : 1 + random.nextInt(40));
        most = new int[] {1, 3, 20, 1000}[random.nextInt(4)];
        boolean lonely = random.nextInt(10) == 0;
        // Few hubs come to have all their ports taken.
        int hubs = random.nextInt(4) == 0 ? 2 : 40;
        for (int b = lonely ? 2 : 1; b < n; b++) {
            int a = random.nextInt(3) == 0 ? b - 1 : random.nextInt(Math.min(b, hubs));
            edge(a, b, 1 + random.nextInt(most));
        }
        int more = random.nextInt(3) * random.nextInt(n + 1);
        for (int i = 0; i < more; i++) {
            edge(node(), node(), 1 + random.nextInt(most));
        }
        build();
    }

    private void setNodes(int count) {
        compare("nodes(" + count + ")", () -> {
            program.nodes(count);
            return 0;
        }, () -> model.nodes(count));
        if (count >= 1 && count <= 40) {
            n = count;
        }
    }

    private void edge(int a, int b, int weight) {
        compare("edge(" + a + ", " + b + ", " + weight + ")", () -> program.edge(a, b, weight),
                () -> model.edge(a, b, weight));
    }

    private int node() {
        return below(n);
    }

    /** Mostly a number that is right. */
    private int below(int bound) {
        int kind = random.nextInt(40);
        return kind == 0 ? bound : kind == 1 ? -1 : random.nextInt(bound);
    }

    private void changeEdge() {
        int a = node();
        int b = node();
        int kind = random.nextInt(6);
        if (kind < 2) {
            compare("cut(" + a + ", " + b + ")", () -> program.cut(a, b), () -> model.cut(a, b));
        } else if (kind == 2) {
            edge(a, b, random.nextInt(1100) - 50);
        } else {
            edge(a, b, 1 + random.nextInt(most));
        }
    }

    private void build() {
        int bucket = random.nextInt(5) == 0 ? random.nextInt(45) - 2 : 1 + random.nextInt(8);
        compare("build(" + bucket + ")", () -> program.build(bucket), () -> model.build(bucket));
    }

    private void ask(int kind) {
        int a = node();
        int b = node();
        switch (kind % 12) {
            case 0:
                int i = below(8);
                compare("landmark(" + i + ")", () -> program.landmark(i), () -> model.landmark(i));
                break;
            case 1:
                int table = below(3);
                compare("table(" + a + ", " + table + ")", () -> program.table(a, table),
                        () -> model.table(a, table));
                break;
            case 2:
                compare("row(" + a + ", " + b + ")", () -> program.row(a, b), () -> model.row(a, b));
                break;
            case 3:
                int word = below(5);
                compare("label(" + a + ", " + word + ")", () -> program.label(a, word),
                        () -> model.label(a, word));
                break;
            case 4:
                int port = below(16);
                compare("port(" + a + ", " + port + ")", () -> program.port(a, port),
                        () -> model.port(a, port));
                break;
            case 5:
                compare("distance(" + a + ", " + b + ")", () -> program.distance(a, b),
                        () -> model.distance(a, b));
                break;
            case 6:
                int walk = below(3);
                compare("walk(" + a + ", " + b + ", " + walk + ")", () -> program.walk(a, b, walk),
                        () -> model.walk(a, b, walk));
                break;
            default:
                askTreeOrPacket(kind, a, b);
                break;
        }
    }

    private void askTreeOrPacket(int kind, int a, int b) {
        int packet = below(16);
        switch (kind % 12) {
            case 7:
                int what = below(4);
                int root = random.nextInt(3) == 0 ? b : ownLandmark(a);
                compare("tree(" + root + ", " + a + ", " + what + ")",
                        () -> program.tree(root, a, what), () -> model.tree(root, a, what));
                break;
            case 8:
                compare("send(" + a + ", " + b + ")", () -> program.send(a, b),
                        () -> model.send(a, b));
                break;
            case 9:
                compare("weight(" + packet + ")", () -> program.weight(packet),
                        () -> model.weight(packet));
                break;
            default:
                compare("hop(" + packet + ")", () -> program.hop(packet), () -> model.hop(packet));
                break;
        }
    }

    private int ownLandmark(int node) {
        String own = Check.outcome(() -> model.table(node, 2));
        return own.matches("-?[0-9]+") ? Integer.parseInt(own) : node;
    }

    /** Everything that is built from one network; each object answers for a few nodes. */
    private static void whole(Check check, int[][] edges, int bucket, int further) {
        for (int from = 0; from < 40; from += 5) {
            ModelTest test = new ModelTest(check, 0);
            test.setNodes(40);
            for (int[] edge : edges) {
                test.edge(edge[0], edge[1], edge[2]);
            }
            test.compare("build", () -> test.program.build(bucket), () -> test.model.build(bucket));
            check.is("landmarks besides the first", test.program.build(bucket)
                    - test.model.firstLandmarks(), further);
            for (int node = from; node < from + 5; node++) {
                test.wholeNode(node);
            }
            check.holds("all was asked", test.calls < CALLS);
        }
    }

    private void wholeNode(int a) {
        compare("landmark", () -> program.landmark(a), () -> model.landmark(a));
        for (int i = 0; i < 5; i++) {
            int what = i;
            compare("table", () -> program.table(a, what), () -> model.table(a, what));
            compare("label", () -> program.label(a, what), () -> model.label(a, what));
            int root = model.table(a, 2);
            compare("tree", () -> program.tree(root, a, what), () -> model.tree(root, a, what));
        }
        for (int i = 0; i < 40; i++) {
            int b = i;
            compare("row", () -> program.row(a, b), () -> model.row(a, b));
        }
        compare("walk", () -> program.walk(a, 39 - a, 0), () -> model.walk(a, 39 - a, 0));
    }
}
