/** Edges and ports, and promises 3 to 5: edge, cut and port. */
public final class EdgeTest {
    private static final Check CHECK = new Check();

    public static void main(String[] args) {
        terms();
        promise3();
        promise4();
        promise5();
        CHECK.end();
    }

    private static void terms() {
        CHECK.sentence("Terms: An EDGE joins two different nodes", EdgeTest::joins);
        CHECK.sentence("Terms: with a weight 1 .. 1000", EdgeTest::leastAndGreatestWeight);
        CHECK.sentence("Terms: has a PORT (0 .. 15) at each end", EdgeTest::sixteenPorts);
        CHECK.sentence("Terms: the lowest of that node at which there is no other, when it is made",
                EdgeTest::lowestPort);
        CHECK.sentence("Terms: it keeps them", EdgeTest::keepsItsPorts);
    }

    private static void promise3() {
        CHECK.sentence("3: An edge with a weight", EdgeTest::newEdge);
        CHECK.sentence("3: or an edge gets another weight", EdgeTest::anotherWeight);
        CHECK.sentence("3: its port at a", EdgeTest::portAtTheFirst);
        CHECK.sentence("3: What is built stays as it is: here", EdgeTest::builtStaysWithEdge);
        CHECK.sentence("3: and with cut()", EdgeTest::builtStaysWithCut);
        CHECK.sentence("3: IndexOutOfBoundsException, when one is no node", EdgeTest::edgeOfNoNode);
        CHECK.sentence("3: IllegalArgumentException, when they are the same", EdgeTest::sameNode);
        CHECK.sentence("3: or the weight is not so", EdgeTest::wrongWeight);
        CHECK.sentence("3: IllegalStateException, when it would be a new edge, and one of them has 16",
                EdgeTest::fullNode);
        CHECK.sentence("3: it would be a new edge", EdgeTest::noNewEdgeOfFullNodes);
    }

    private static void promise4() {
        CHECK.sentence("4: Takes away an edge", EdgeTest::takesAway);
        CHECK.sentence("4: its weight", EdgeTest::weightOfCut);
        CHECK.sentence("4: IndexOutOfBoundsException, when one is no node", EdgeTest::cutOfNoNode);
        CHECK.sentence("4: IllegalArgumentException, when there is none", EdgeTest::cutOfNoEdge);
    }

    private static void promise5() {
        CHECK.sentence("5: The node behind a port", EdgeTest::behindPort);
        CHECK.sentence("5: or NONE", EdgeTest::behindNoEdge);
        CHECK.sentence("5: IndexOutOfBoundsException, when there is no such node",
                EdgeTest::portOfNoNode);
        CHECK.sentence("5: or port (0 .. 15)", EdgeTest::noSuchPort);
    }

    private static void joins() {
        LabelRouter x = new LabelRouter();
        x.nodes(40);
        CHECK.answers(0, "edge(0, 39, 1)", () -> x.edge(0, 39, 1));
        CHECK.answers(39, "behind it at one end", () -> x.port(0, 0));
        CHECK.answers(0, "behind it at the other", () -> x.port(39, 0));
        for (int node : new int[] {0, 1, 39}) {
            CHECK.noArgument("edge of " + node + " to itself", () -> x.edge(node, node, 1));
        }
    }

    private static void leastAndGreatestWeight() {
        LabelRouter x = new LabelRouter();
        x.nodes(3);
        CHECK.answers(0, "edge(0, 1, 1)", () -> x.edge(0, 1, 1));
        CHECK.answers(0, "edge(2, 1, 1000)", () -> x.edge(2, 1, 1000));
        CHECK.answers(1, "the weight 1", () -> x.distance(0, 1));
        CHECK.answers(1000, "the weight 1000", () -> x.distance(1, 2));
        CHECK.noArgument("edge(0, 2, 0)", () -> x.edge(0, 2, 0));
        CHECK.noArgument("edge(0, 2, 1001)", () -> x.edge(0, 2, 1001));
    }

    private static void sixteenPorts() {
        LabelRouter x = new LabelRouter();
        x.nodes(17);
        for (int i = 1; i <= 16; i++) {
            int other = i;
            CHECK.answers(other - 1, "edge " + other + " of node 0", () -> x.edge(0, other, 1));
            CHECK.answers(0, "behind port 0 of the other", () -> x.port(other, 0));
        }
        CHECK.answers(1, "the first", () -> x.port(0, 0));
        CHECK.answers(16, "the last", () -> x.port(0, 15));
    }

    private static void lowestPort() {
        LabelRouter x = Nets.star(8, 0);
        x.cut(0, 2);
        x.cut(0, 5);
        CHECK.answers(1, "the lowest free one at 0, though cut first", () -> x.edge(0, 5, 1));
        CHECK.answers(4, "the next free one at 0", () -> x.edge(0, 2, 1));
        CHECK.answers(1, "another at 2", () -> x.edge(2, 5, 1));
        x.cut(5, 0);
        CHECK.answers(0, "each end has its own: at 5", () -> x.edge(5, 7, 1));
        CHECK.answers(1, "each end has its own: at 7", () -> x.edge(7, 5, 1));
        CHECK.answers(1, "and 0 has its port free", () -> x.edge(0, 5, 1));
        CHECK.answers(2, "where 5 has its third", () -> x.edge(5, 0, 1));
    }

    private static void keepsItsPorts() {
        LabelRouter x = Nets.star(17, 0);
        for (int i = 1; i < 16; i++) {
            x.cut(0, i);
        }
        CHECK.answers(16, "the others being cut", () -> x.port(0, 15));
        CHECK.answers(15, "getting another weight", () -> x.edge(0, 16, 9));
        CHECK.answers(LabelRouter.NONE, "it does not move", () -> x.port(0, 0));
        for (int i = 1; i < 16; i++) {
            x.edge(0, 16 - i, 1);
        }
        CHECK.answers(16, "others being made", () -> x.port(0, 15));
        x.cut(0, 8);
        x.edge(8, 1, 1);
        x.build(3);
        CHECK.answers(16, "it being built", () -> x.port(0, 15));
        CHECK.answers(LabelRouter.NONE, "and no port is filled then", () -> x.port(0, 7));
    }

    private static void newEdge() {
        LabelRouter x = new LabelRouter();
        x.nodes(3);
        CHECK.answers(0, "edge(2, 0, 417)", () -> x.edge(2, 0, 417));
        CHECK.answers(417, "one way", () -> x.distance(2, 0));
        CHECK.answers(417, "the other way", () -> x.distance(0, 2));
        CHECK.answers(LabelRouter.NONE, "no other edge", () -> x.distance(0, 1));
    }

    private static void anotherWeight() {
        LabelRouter x = Nets.of(2, new int[][] {{0, 1, 5}});
        for (int weight : new int[] {1000, 1, 6, 6}) {
            CHECK.answers(0, "a weight " + weight, () -> x.edge(0, 1, weight));
            CHECK.answers(weight, "one way", () -> x.distance(0, 1));
            CHECK.answers(weight, "the other way", () -> x.distance(1, 0));
        }
        CHECK.answers(0, "told from the other end", () -> x.edge(1, 0, 8));
        CHECK.answers(8, "it counts from this one", () -> x.distance(0, 1));
        CHECK.answers(LabelRouter.NONE, "it takes no port at 0", () -> x.port(0, 1));
        CHECK.answers(LabelRouter.NONE, "it takes no port at 1", () -> x.port(1, 1));
        CHECK.answers(8, "there is one edge", () -> x.cut(0, 1));
        CHECK.answers(LabelRouter.NONE, "and no second one", () -> x.distance(0, 1));
    }

    private static void portAtTheFirst() {
        LabelRouter x = Nets.star(6, 0);
        CHECK.answers(1, "a new edge, at its first", () -> x.edge(5, 3, 1));
        CHECK.answers(1, "the same at its second", () -> x.edge(3, 5, 1));
        CHECK.answers(4, "an old edge at the center", () -> x.edge(0, 5, 2));
        CHECK.answers(0, "an old edge at the other end", () -> x.edge(5, 0, 2));
        CHECK.answers(2, "a new edge at one with two", () -> x.edge(3, 4, 1));
        CHECK.answers(1, "the same at one with one", () -> x.edge(4, 3, 1));
    }

    private static void builtStaysWithEdge() {
        LabelRouter x = Nets.of(4, new int[][] {{0, 1, 3}, {1, 2, 7}, {0, 2, 8}, {2, 3, 5}});
        x.build(3);
        String before = Whole.built(x, 4);
        x.edge(1, 3, 1);
        x.edge(0, 2, 1);
        CHECK.same("what is built", Whole.built(x, 4), before);
        CHECK.answers(1, "the edges are other ones now", () -> x.distance(2, 0));
    }

    private static void builtStaysWithCut() {
        LabelRouter x = Nets.of(4, new int[][] {{0, 1, 3}, {1, 2, 7}, {0, 2, 8}, {2, 3, 5}});
        x.build(3);
        String before = Whole.built(x, 4);
        x.cut(2, 3);
        x.cut(0, 1);
        CHECK.same("what is built", Whole.built(x, 4), before);
        CHECK.answers(LabelRouter.NONE, "the edges are away now", () -> x.distance(3, 0));
    }

    private static void edgeOfNoNode() {
        LabelRouter x = new LabelRouter();
        x.nodes(3);
        for (int no : Nets.notBelow(3)) {
            CHECK.noIndex("edge(" + no + ", 1, 1)", () -> x.edge(no, 1, 1));
            CHECK.noIndex("edge(1, " + no + ", 1)", () -> x.edge(1, no, 1));
        }
    }

    private static void sameNode() {
        LabelRouter x = Nets.star(17, 0);
        for (int i = 0; i < 17; i++) {
            int node = i;
            CHECK.noArgument("edge(" + node + ", " + node + ", 1)", () -> x.edge(node, node, 1));
        }
    }

    private static void wrongWeight() {
        LabelRouter x = Nets.of(3, new int[][] {{0, 1, 7}});
        for (int weight : Nets.notUpTo(1000)) {
            CHECK.noArgument("a new edge of " + weight, () -> x.edge(0, 2, weight));
            CHECK.noArgument("an edge gets " + weight, () -> x.edge(0, 1, weight));
        }
        CHECK.answers(7, "the weight that it had", () -> x.distance(0, 1));
        CHECK.answers(LabelRouter.NONE, "no new edge", () -> x.distance(0, 2));
    }

    private static void fullNode() {
        LabelRouter x = new LabelRouter();
        x.nodes(36);
        for (int i = 2; i < 17; i++) {
            x.edge(0, i, 1);
        }
        CHECK.answers(15, "the sixteenth", () -> x.edge(0, 17, 1));
        CHECK.noState("a seventeenth of a", () -> x.edge(0, 18, 1));
        CHECK.noState("a seventeenth of b", () -> x.edge(18, 0, 1));
        for (int i = 18; i < 34; i++) {
            x.edge(1, i, 1);
        }
        CHECK.noState("both have 16", () -> x.edge(0, 1, 1));
        x.cut(0, 9);
        CHECK.noState("the other has 16", () -> x.edge(0, 1, 1));
        CHECK.noState("the first has 16", () -> x.edge(1, 0, 1));
        CHECK.answers(7, "one has 15 again", () -> x.edge(0, 35, 1));
        CHECK.noState("and 16 again", () -> x.edge(0, 9, 1));
    }

    private static void noNewEdgeOfFullNodes() {
        LabelRouter x = new LabelRouter();
        x.nodes(32);
        x.edge(0, 1, 4);
        for (int i = 2; i < 17; i++) {
            x.edge(0, i, 1);
            x.edge(1, i + 15, 1);
        }
        CHECK.noState("0 has 16", () -> x.edge(0, 31, 1));
        CHECK.noState("1 has 16", () -> x.edge(1, 2, 1));
        CHECK.answers(0, "another weight for 0 and 1", () -> x.edge(0, 1, 900));
        CHECK.answers(900, "it has got it", () -> x.cut(1, 0));
        CHECK.answers(0, "it is made again", () -> x.edge(1, 0, 3));
        CHECK.answers(15, "another weight at the last port", () -> x.edge(0, 16, 5));
    }

    private static void takesAway() {
        LabelRouter x = Nets.star(6, 0);
        x.cut(0, 2);
        CHECK.answers(LabelRouter.NONE, "the port at a is free", () -> x.port(0, 1));
        CHECK.answers(LabelRouter.NONE, "the port at b is free", () -> x.port(2, 0));
        CHECK.answers(LabelRouter.NONE, "there is no way", () -> x.distance(0, 2));
        x.cut(5, 0);
        CHECK.answers(LabelRouter.NONE, "told from the other end", () -> x.port(0, 4));
        CHECK.answers(LabelRouter.NONE, "the port there is free", () -> x.port(5, 0));
        CHECK.answers(1, "others stay", () -> x.port(0, 0));
        CHECK.answers(4, "others stay where they are", () -> x.port(0, 3));
        CHECK.answers(2, "ways over others stay", () -> x.distance(1, 4));
    }

    private static void weightOfCut() {
        LabelRouter x = Nets.of(4, new int[][] {{0, 1, 1}, {1, 2, 1000}, {2, 3, 7}});
        x.edge(2, 3, 8);
        CHECK.answers(1, "the least", () -> x.cut(0, 1));
        CHECK.answers(1000, "the greatest, from the other end", () -> x.cut(2, 1));
        CHECK.answers(8, "the one that it got later", () -> x.cut(2, 3));
        x.edge(0, 1, 33);
        CHECK.answers(33, "of the edge that is there again", () -> x.cut(0, 1));
    }

    private static void cutOfNoNode() {
        LabelRouter x = Nets.line();
        for (int no : Nets.notBelow(5)) {
            CHECK.noIndex("cut(" + no + ", 0)", () -> x.cut(no, 0));
            CHECK.noIndex("cut(0, " + no + ")", () -> x.cut(0, no));
            CHECK.noIndex("cut(" + no + ", " + no + ")", () -> x.cut(no, no));
        }
    }

    private static void cutOfNoEdge() {
        LabelRouter x = Nets.line();
        CHECK.noArgument("there is a way, but no edge", () -> x.cut(0, 2));
        CHECK.noArgument("a node and itself", () -> x.cut(3, 3));
        x.cut(0, 1);
        CHECK.noArgument("cut twice", () -> x.cut(0, 1));
        CHECK.noArgument("cut twice, from the other end", () -> x.cut(1, 0));
        LabelRouter y = new LabelRouter();
        CHECK.noArgument("of a new object", () -> y.cut(0, 0));
    }

    private static void behindPort() {
        LabelRouter x = Nets.star(17, 16);
        for (int i = 0; i < 16; i++) {
            int port = i;
            CHECK.answers(port, "port(16, " + port + ")", () -> x.port(16, port));
            CHECK.answers(16, "port(" + port + ", 0)", () -> x.port(port, 0));
        }
    }

    private static void behindNoEdge() {
        LabelRouter x = Nets.line();
        CHECK.answers(LabelRouter.NONE, "after the last edge", () -> x.port(0, 1));
        CHECK.answers(LabelRouter.NONE, "the last port", () -> x.port(4, 15));
        x.cut(1, 2);
        CHECK.answers(LabelRouter.NONE, "before an edge", () -> x.port(1, 0));
        CHECK.answers(0, "that edge", () -> x.port(1, 1));
        CHECK.is("NONE", LabelRouter.NONE, -1);
    }

    private static void portOfNoNode() {
        LabelRouter x = Nets.line();
        for (int no : Nets.notBelow(5)) {
            CHECK.noIndex("port(" + no + ", 0)", () -> x.port(no, 0));
            CHECK.noIndex("port(" + no + ", 16)", () -> x.port(no, 16));
        }
    }

    private static void noSuchPort() {
        LabelRouter x = Nets.star(17, 16);
        for (int no : Nets.notBelow(16)) {
            CHECK.noIndex("port(16, " + no + ")", () -> x.port(16, no));
            CHECK.noIndex("port(0, " + no + ")", () -> x.port(0, no));
        }
    }
}
