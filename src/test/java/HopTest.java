/** Each case of a hop, and promise 13: hop. */
public final class HopTest {
    private static final Check CHECK = new Check();

    public static void main(String[] args) {
        CHECK.sentence("Terms: A HOP: if it is at the node of word 0, nothing", HopTest::atItsNode);
        CHECK.sentence("Terms: if that node is in its cluster, it goes to the next one towards it",
                HopTest::inItsCluster);
        CHECK.sentence("Terms: or a landmark, it goes to the next one towards it",
                HopTest::toALandmark);
        CHECK.sentence("Terms: if the place of word 2 is not one at or below this node, to its parent",
                HopTest::toItsParent);
        CHECK.sentence("Terms: if it is at or below its heavy child, to that",
                HopTest::toItsHeavyChild);
        CHECK.sentence("Terms: else through the port in word 4", HopTest::throughAPort);
        CHECK.sentence("Terms: that stands at as many light nodes as are on the way from the "
                + "landmark down to this node", HopTest::throughTheFirstPort);
        CHECK.sentence("13: A packet makes a HOP: where it is then", HopTest::whereItIs);
        CHECK.sentence("13: along the edges as they were when it was built", HopTest::edgesAsBuilt);
        CHECK.sentence("13: and weights as they were when it was built", HopTest::weightsAsBuilt);
        CHECK.sentence("13: IllegalArgumentException, when there is no such packet",
                HopTest::noPacket);
        CHECK.end();
    }

    private static void hops(LabelRouter x, int from, int to, int... due) {
        int packet = x.send(from, to);
        for (int at : due) {
            CHECK.answers(at, "from " + from + " to " + to, () -> x.hop(packet));
        }
    }

    private static void atItsNode() {
        LabelRouter x = Nets.builtLine();
        hops(x, 2, 2, 2, 2, 2);
        hops(x, 1, 1, 1, 1);
        hops(x, 0, 2, 1, 2, 2, 2);
        CHECK.answers(0, "of a packet to where it is", () -> x.weight(0));
        CHECK.answers(2, "of a packet that came there", () -> x.weight(2));
    }

    private static void inItsCluster() {
        // 4 is less than 5: straight to 1. In the tree the way would be by 0.
        hops(Nets.triangle(5, 4, 8), 2, 1, 1);
        hops(Nets.triangle(5, 5, 10), 2, 1, 0, 1);
        // From 3 to 2, in its cluster, by 1, the lower one of two that make the least.
        LabelRouter x = Nets.of(4, new int[][] {{3, 2, 2}, {3, 1, 1}, {1, 2, 1}, {0, 2, 9}});
        x.build(4);
        hops(x, 3, 2, 1, 2);
    }

    private static void toALandmark() {
        LabelRouter x = Nets.builtLine();
        hops(x, 4, 1, 3, 2, 1, 1);
        hops(x, 0, 3, 1, 2, 3, 3);
        hops(x, 1, 3, 2, 3);
        LabelRouter y = Nets.ring(6, 1);
        y.build(1);
        hops(y, 0, 3, 1, 2, 3);
        hops(y, 3, 0, 2, 1, 0);
        hops(y, 5, 1, 0, 1);
    }

    private static void toItsParent() {
        LabelRouter x = Nets.heavyLast();
        // The places are 3: 1, 4: 2, 1: 3, 2: 4. At 3 are 1 and 2, so that 3 is one too many.
        hops(x, 3, 1, 0, 1);
        hops(x, 4, 1, 3, 0, 1);
        // At 1 is 3, so that 2 is one too few, and 4 one too many.
        hops(x, 1, 4, 0);
        hops(x, 1, 2, 0);
        hops(x, 2, 1, 0);
    }

    private static void toItsHeavyChild() {
        LabelRouter x = Nets.heavyLast();
        hops(x, 1, 3, 0, 3);
        hops(x, 0, 3, 3);
        // Place 2 is the last one at or below 3.
        hops(x, 0, 4, 3, 4);
        LabelRouter y = Nets.binaryTree(15);
        y.build(15);
        hops(y, 14, 10, 6, 2, 0, 1, 4, 10);
        hops(y, 0, 10, 1);
    }

    private static void throughAPort() {
        LabelRouter x = Nets.heavyLast();
        // Place 3 is the first one after those at or below 3.
        hops(x, 0, 1, 1);
        hops(x, 0, 2, 2);
        LabelRouter y = Nets.star(17, 0);
        y.build(17);
        for (int to = 2; to <= 16; to++) {
            hops(y, 1, to, 0, to, to);
        }
        hops(y, 16, 1, 0, 1);
    }

    /** The landmark comes after no light node: the lowest bits are its own. */
    private static void throughTheFirstPort() {
        LabelRouter x = Nets.lightWay(3, 5, 9, 12);
        hops(x, 0, 30, 2, 6, 14, 30, 30);
        hops(x, 1, 30, 0, 2, 6, 14, 30);
        hops(x, 0, 29, 2, 6, 14, 29);
        LabelRouter y = Nets.lightWay(15, 15, 15, 15);
        hops(y, 15, 30, 7, 3, 1, 0, 2, 6, 14, 30);
        hops(y, 0, 2, 2);
    }

    private static void whereItIs() {
        LabelRouter x = Nets.binaryTree(15);
        x.build(15);
        hops(x, 7, 14, 3, 1, 0, 2, 6, 14, 14);
        hops(x, 14, 9, 6, 2, 0, 1, 4, 9);
        hops(x, 3, 4, 1, 4);
        LabelRouter one = new LabelRouter();
        one.build(1);
        hops(one, 0, 0, 0, 0);
    }

    private static void edgesAsBuilt() {
        LabelRouter x = Nets.star(5, 0);
        x.build(5);
        x.cut(0, 1);
        x.cut(0, 4);
        x.cut(0, 3);
        x.edge(0, 4, 1);
        x.edge(1, 4, 1);
        hops(x, 1, 4, 0, 4);
        hops(x, 2, 3, 0, 3);
    }

    private static void weightsAsBuilt() {
        LabelRouter x = Nets.triangle(5, 4, 8);
        x.edge(1, 2, 1000);
        x.edge(0, 2, 1);
        hops(x, 2, 1, 1);
        CHECK.answers(4, "what the hop weighed", () -> x.weight(0));
    }

    private static void noPacket() {
        LabelRouter x = Nets.line();
        CHECK.noArgument("nothing is built", () -> x.hop(0));
        x.build(2);
        CHECK.noArgument("nothing is sent", () -> x.hop(0));
        x.send(0, 4);
        for (int no : new int[] {-1, 1, 15, 16, 17, Integer.MIN_VALUE, Integer.MAX_VALUE}) {
            CHECK.noArgument("hop(" + no + ")", () -> x.hop(no));
        }
        for (int i = 0; i < 20; i++) {
            x.send(0, 4);
        }
        CHECK.answers(1, "hop(15)", () -> x.hop(15));
        for (int no : Nets.notBelow(16)) {
            CHECK.noArgument("hop(" + no + ")", () -> x.hop(no));
        }
    }
}
