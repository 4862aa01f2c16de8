/** Nodes, and promises 1 and 2: a new object, nodes. */
public final class NodesTest {
    private static final Check CHECK = new Check();

    public static void main(String[] args) {
        CHECK.sentence("1: One node", NodesTest::oneNode);
        CHECK.sentence("1: not built", NodesTest::newObjectIsNotBuilt);
        CHECK.sentence("Terms: NODES are 0 .. n - 1", NodesTest::numbersOfNodes);
        CHECK.sentence("2: There are n nodes", NodesTest::thereAreSoMany);
        CHECK.sentence("2: without edges", NodesTest::withoutEdges);
        CHECK.sentence("2: not built", NodesTest::notBuiltThen);
        CHECK.sentence("2: no packets", NodesTest::noPacketsThen);
        CHECK.sentence("2: There are n nodes (nothing is left of those before)",
                NodesTest::nothingIsLeft);
        CHECK.sentence("2: IllegalArgumentException, when n is not 1 .. 40", NodesTest::refused);
        CHECK.end();
    }

    private static int setNodes(LabelRouter x, int n) {
        x.nodes(n);
        return 0;
    }

    private static void oneNode() {
        LabelRouter x = new LabelRouter();
        CHECK.answers(0, "distance(0, 0)", () -> x.distance(0, 0));
        CHECK.noIndex("distance(0, 1)", () -> x.distance(0, 1));
        CHECK.noIndex("edge(0, 1, 1)", () -> x.edge(0, 1, 1));
        CHECK.noIndex("cut(1, 0)", () -> x.cut(1, 0));
        CHECK.noIndex("port(1, 0)", () -> x.port(1, 0));
        CHECK.noArgument("edge(0, 0, 1)", () -> x.edge(0, 0, 1));
        for (int i = 0; i < 16; i++) {
            int port = i;
            CHECK.answers(LabelRouter.NONE, "port(0, " + port + ")", () -> x.port(0, port));
        }
        CHECK.answers(1, "one node is joined to all", () -> x.build(1));
        CHECK.answers(0, "and is the landmark", () -> x.landmark(0));
    }

    private static void nothingIsBuilt(LabelRouter x) {
        CHECK.noState("landmark", () -> x.landmark(0));
        CHECK.noState("table", () -> x.table(0, 0));
        CHECK.noState("row", () -> x.row(0, 0));
        CHECK.noState("label", () -> x.label(0, 0));
        CHECK.noState("tree", () -> x.tree(0, 0, 0));
        CHECK.noState("send", () -> x.send(0, 0));
        CHECK.noState("walk", () -> x.walk(0, 0, 0));
    }

    private static void noPackets(LabelRouter x) {
        for (int i = 0; i < 16; i++) {
            int packet = i;
            CHECK.noArgument("hop(" + packet + ")", () -> x.hop(packet));
            CHECK.noArgument("weight(" + packet + ")", () -> x.weight(packet));
        }
    }

    private static void newObjectIsNotBuilt() {
        LabelRouter x = new LabelRouter();
        nothingIsBuilt(x);
        noPackets(x);
    }

    private static void numbersOfNodes() {
        LabelRouter x = new LabelRouter();
        x.nodes(3);
        for (int i = 0; i < 3; i++) {
            int node = i;
            CHECK.answers(0, "distance of " + node, () -> x.distance(node, node));
            CHECK.answers(LabelRouter.NONE, "port of " + node, () -> x.port(node, 0));
        }
        for (int no : Nets.notBelow(3)) {
            CHECK.noIndex("distance of " + no, () -> x.distance(no, no));
            CHECK.noIndex("port of " + no, () -> x.port(no, 0));
        }
    }

    private static void thereAreSoMany() {
        LabelRouter x = new LabelRouter();
        for (int n : new int[] {1, 2, 39, 40, 7, 1, 40}) {
            CHECK.answers(0, "nodes(" + n + ")", () -> setNodes(x, n));
            CHECK.answers(0, "the last one", () -> x.distance(n - 1, n - 1));
            CHECK.noIndex("none after it", () -> x.distance(0, n));
        }
    }

    private static void withoutEdges() {
        LabelRouter x = Nets.of(40, new int[][] {{0, 1, 1}, {38, 39, 1}, {0, 39, 1}});
        x.nodes(40);
        for (int node : new int[] {0, 1, 38, 39}) {
            CHECK.answers(LabelRouter.NONE, "port(" + node + ", 0)", () -> x.port(node, 0));
            CHECK.answers(LabelRouter.NONE, "port(" + node + ", 1)", () -> x.port(node, 1));
        }
        CHECK.answers(LabelRouter.NONE, "distance(0, 1)", () -> x.distance(0, 1));
        CHECK.answers(LabelRouter.NONE, "distance(38, 39)", () -> x.distance(38, 39));
        CHECK.noArgument("cut(38, 39)", () -> x.cut(38, 39));
        CHECK.answers(0, "the first edge again", () -> x.edge(39, 38, 5));
        x.edge(0, 39, 1);
        x.nodes(1);
        CHECK.answers(LabelRouter.NONE, "of one node", () -> x.port(0, 0));
        x.nodes(40);
        CHECK.answers(LabelRouter.NONE, "of the last of 40 again", () -> x.port(39, 0));
    }

    private static void notBuiltThen() {
        LabelRouter x = Nets.builtLine();
        x.nodes(5);
        nothingIsBuilt(x);
        LabelRouter y = new LabelRouter();
        y.build(1);
        y.nodes(1);
        nothingIsBuilt(y);
    }

    private static void noPacketsThen() {
        LabelRouter x = Nets.builtLine();
        for (int i = 0; i < 20; i++) {
            x.send(0, 4);
        }
        x.nodes(1);
        noPackets(x);
        x.build(1);
        noPackets(x);
        CHECK.answers(0, "the first packet has number 0", () -> x.send(0, 0));
        CHECK.noArgument("and is the only one", () -> x.weight(1));
    }

    /** The same calls after nodes, on an object with a past and on a new one. */
    private static void nothingIsLeft() {
        for (int n = 1; n <= 4; n++) {
            for (int bucket = 1; bucket <= n; bucket++) {
                LabelRouter used = Nets.builtLine();
                LabelRouter fresh = new LabelRouter();
                String got = asked(used, n, bucket);
                CHECK.same("line of " + n + ", bucket " + bucket, got, asked(fresh, n, bucket));
                LabelRouter wide = Nets.ring(40, 3);
                wide.build(2);
                CHECK.same("after 40 nodes", asked(wide, n, bucket), got);
            }
        }
    }

    private static String asked(LabelRouter x, int n, int bucket) {
        x.nodes(n);
        for (int i = 1; i < n; i++) {
            x.edge(i - 1, i, i);
        }
        x.build(bucket);
        return Whole.built(x, n) + Whole.network(x, n) + Whole.packets(x);
    }

    private static void refused() {
        LabelRouter x = new LabelRouter();
        for (int n : Nets.notUpTo(40)) {
            CHECK.noArgument("nodes(" + n + ")", () -> setNodes(x, n));
        }
        CHECK.answers(0, "nodes(1)", () -> setNodes(x, 1));
        CHECK.answers(0, "nodes(40)", () -> setNodes(x, 40));
    }
}
