/** Least weights and ways towards a node, and promise 15: distance. */
public final class DistanceTest {
    private static final Check CHECK = new Check();

    public static void main(String[] args) {
        CHECK.sentence("Terms: d(a, b) is the least weight of all ways", DistanceTest::leastWeight);
        CHECK.sentence("Terms: the lowest neighbour c of a for which the weight of their edge and "
                + "d(c, b) make d(a, b)", DistanceTest::lowestNeighbour);
        CHECK.sentence("15: d(a, b) as it is now", DistanceTest::asItIsNow);
        CHECK.sentence("15: NONE when there is no way", DistanceTest::noWay);
        CHECK.sentence("15: IndexOutOfBoundsException, when one is no node", DistanceTest::noNode);
        CHECK.end();
    }

    private static void leastWeight() {
        LabelRouter x = Nets.ring(6, 10);
        CHECK.answers(30, "half round", () -> x.distance(0, 3));
        x.edge(0, 3, 31);
        CHECK.answers(30, "an edge that weighs more than a way", () -> x.distance(0, 3));
        x.edge(0, 3, 30);
        CHECK.answers(30, "an edge that weighs as much", () -> x.distance(3, 0));
        x.edge(0, 3, 29);
        CHECK.answers(29, "an edge that weighs less", () -> x.distance(0, 3));
        CHECK.answers(0, "from a node to itself", () -> x.distance(3, 3));
        LabelRouter y = new LabelRouter();
        y.nodes(40);
        for (int i = 1; i < 40; i++) {
            y.edge(i - 1, i, 1000);
        }
        CHECK.answers(39000, "the greatest of all", () -> y.distance(0, 39));
        CHECK.answers(39000, "the way back", () -> y.distance(39, 0));
        y.edge(0, 39, 1);
        CHECK.answers(1, "the least of all", () -> y.distance(39, 0));
    }

    /** All nodes are in all balls, so that the one landmark is 0. */
    private static int nextToLandmark(int from, int[]... edges) {
        LabelRouter x = Nets.of(4, edges);
        x.build(4);
        return x.tree(0, from, 3);
    }

    private static void lowestNeighbour() {
        CHECK.answers(1, "the lowest, though its port is the higher", () -> nextToLandmark(3,
                new int[][] {{3, 2, 1}, {3, 1, 1}, {0, 2, 1}, {0, 1, 1}}));
        CHECK.answers(2, "not the lowest, if that is farther by 1", () -> nextToLandmark(3,
                new int[][] {{3, 2, 1}, {3, 1, 2}, {0, 2, 1}, {0, 1, 1}}));
        CHECK.answers(1, "not the nearest one, if both make the least", () -> nextToLandmark(3,
                new int[][] {{3, 2, 1}, {3, 1, 4}, {0, 2, 5}, {0, 1, 2}}));
        CHECK.answers(0, "the node itself is the lowest", () -> nextToLandmark(3,
                new int[][] {{3, 1, 1}, {1, 0, 1}, {3, 0, 2}, {2, 0, 1}}));
        CHECK.answers(1, "not the node itself, if its edge is heavy", () -> nextToLandmark(3,
                new int[][] {{3, 1, 1}, {1, 0, 1}, {3, 0, 3}, {2, 0, 1}}));
        // From 3 towards 2, which is in its cluster: by 1 as by the edge to 2.
        LabelRouter x = Nets.of(4, new int[][] {{3, 2, 2}, {3, 1, 1}, {1, 2, 1}, {0, 2, 9}});
        x.build(4);
        CHECK.answers(1, "a lower one than the node itself", () -> x.row(3, 2));
        CHECK.answers(1, "behind that port", () -> x.port(3, 1));
    }

    private static void asItIsNow() {
        LabelRouter x = Nets.ring(6, 10);
        x.build(2);
        x.cut(0, 1);
        CHECK.answers(40, "an edge was cut", () -> x.distance(0, 2));
        x.edge(0, 5, 500);
        CHECK.answers(530, "an edge got another weight", () -> x.distance(0, 2));
        x.edge(0, 2, 1000);
        CHECK.answers(530, "an edge was made, but is heavy", () -> x.distance(0, 2));
        x.edge(0, 2, 7);
        CHECK.answers(7, "it got another weight", () -> x.distance(2, 0));
        CHECK.answers(20, "what is built has the old one", () -> x.walk(0, 2, 0));
    }

    private static void noWay() {
        LabelRouter x = Nets.ring(6, 10);
        x.build(2);
        x.cut(0, 1);
        x.cut(3, 4);
        CHECK.answers(LabelRouter.NONE, "from one part to another", () -> x.distance(0, 1));
        CHECK.answers(LabelRouter.NONE, "and back", () -> x.distance(3, 5));
        CHECK.answers(20, "in one part", () -> x.distance(1, 3));
        CHECK.answers(20, "in the other", () -> x.distance(0, 4));
        LabelRouter y = new LabelRouter();
        y.nodes(2);
        CHECK.answers(LabelRouter.NONE, "without edges", () -> y.distance(0, 1));
        CHECK.answers(0, "from a lone node to itself", () -> y.distance(1, 1));
    }

    private static void noNode() {
        LabelRouter x = Nets.line();
        for (int no : Nets.notBelow(5)) {
            CHECK.noIndex("distance(" + no + ", 0)", () -> x.distance(no, 0));
            CHECK.noIndex("distance(0, " + no + ")", () -> x.distance(0, no));
            CHECK.noIndex("distance(" + no + ", " + no + ")", () -> x.distance(no, no));
        }
    }
}
