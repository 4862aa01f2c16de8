/** Balls, landmarks and clusters, and promises 7 and 8: landmark and table. */
public final class LandmarkTest {
    private static final Check CHECK = new Check();

    public static void main(String[] args) {
        ballsAndFirstLandmarks();
        ownLandmarksAndClusters();
        promise7();
        promise8();
        CHECK.end();
    }

    private static void ballsAndFirstLandmarks() {
        CHECK.sentence("Terms: The BALL of a node are the B nodes nearest to it",
                LandmarkTest::nearest);
        CHECK.sentence("Terms: (all, if there are fewer)", LandmarkTest::fewerThanTheBucket);
        CHECK.sentence("Terms: itself as well", LandmarkTest::itselfAsWell);
        CHECK.sentence("Terms: of those as near the lower numbers", LandmarkTest::asNear);
        CHECK.sentence("Terms: FIRST LANDMARKS: again and again the node that is in the most balls "
                + "without a landmark in them", LandmarkTest::againAndAgain);
        CHECK.sentence("Terms: of several the lowest, until each ball has one",
                LandmarkTest::ofSeveralTheLowest);
        CHECK.sentence("Terms: until each ball has one", LandmarkTest::untilEachHasOne);
    }

    private static void ownLandmarksAndClusters() {
        CHECK.sentence("Terms: A node's OWN landmark is the one nearest to it",
                LandmarkTest::ownIsNearest);
        CHECK.sentence("Terms: OWN, of several the lowest", LandmarkTest::ownOfSeveral);
        CHECK.sentence("Terms: Its CLUSTER are the nodes c for which d(it, c) is less than "
                + "d(c, c's own landmark)", LandmarkTest::clusters);
        CHECK.sentence("Terms: is less than", LandmarkTest::clustersAtTheirBound);
        CHECK.sentence("Terms: As long as there are clusters of more than 4 n / (how many first "
                + "landmarks there are), rounded up, nodes", LandmarkTest::crowdedClusters);
        CHECK.sentence("Terms: how many first landmarks there are", LandmarkTest::firstOnesCount);
        CHECK.sentence("Terms: clusters of more than", LandmarkTest::notMoreThanMayBe);
        CHECK.sentence("Terms: rounded up", LandmarkTest::roundedUp);
        CHECK.sentence("Terms: the lowest node that has such a one becomes a landmark, too",
                LandmarkTest::lowestCrowded);
        CHECK.sentence("Terms: As long as", LandmarkTest::crowdedTwice);
    }

    private static void promise7() {
        CHECK.sentence("7: Landmark i, in rising order", LandmarkTest::inRisingOrder);
        CHECK.sentence("7: IllegalStateException, when nothing is built", LandmarkTest::notBuilt);
        CHECK.sentence("7: IndexOutOfBoundsException, when there is none such",
                LandmarkTest::noSuchLandmark);
    }

    private static void promise8() {
        CHECK.sentence("Terms: The TABLE of a node has a row for each landmark (also itself) and "
                + "one for each node of its cluster", LandmarkTest::rowsOfTables);
        CHECK.sentence("8: How many rows a node's table has (what 0)", LandmarkTest::howManyRows);
        CHECK.sentence("8: how many nodes its cluster (1)", LandmarkTest::sizesOfClusters);
        CHECK.sentence("8: its own landmark (2)", LandmarkTest::ownLandmarks);
        CHECK.sentence("8: IllegalStateException likewise", LandmarkTest::tableOfNothing);
        CHECK.sentence("8: IndexOutOfBoundsException, when there is no such node",
                LandmarkTest::tableOfNoNode);
        CHECK.sentence("8: or what", LandmarkTest::tableOfNoWhat);
    }

    private static void landmarks(LabelRouter x, int bucket, int... due) {
        CHECK.answers(due.length, "build(" + bucket + ")", () -> x.build(bucket));
        for (int i = 0; i < due.length; i++) {
            int at = i;
            CHECK.answers(due[i], "bucket " + bucket + ", landmark " + i, () -> x.landmark(at));
        }
        CHECK.noIndex("bucket " + bucket + ", a further one", () -> x.landmark(due.length));
    }

    private static void tables(LabelRouter x, int what, int... due) {
        for (int node = 0; node < due.length; node++) {
            int at = node;
            CHECK.answers(due[node], "table(" + node + ", " + what + ")", () -> x.table(at, what));
        }
    }

    private static void nearest() {
        // By weights, not by how many edges: the balls are 0 2, 1 2 and 2 0.
        landmarks(Nets.of(3, new int[][] {{0, 1, 10}, {0, 2, 1}, {1, 2, 2}}), 2, 2);
        // The balls of 0 - 1 -- 2 - 3 are 0 1, 1 0, 2 3 and 3 2; with three nodes in each
        // 0 1 2, 1 0 2, 2 3 1 and 3 2 1, and with all four all.
        LabelRouter x = Nets.of(4, new int[][] {{0, 1, 1}, {1, 2, 5}, {2, 3, 1}});
        landmarks(x, 2, 0, 2);
        landmarks(x, 3, 1);
        landmarks(x, 4, 0);
    }

    private static void fewerThanTheBucket() {
        LabelRouter x = Nets.ring(6, 3);
        for (int bucket : new int[] {6, 7, 39, 40}) {
            landmarks(x, bucket, 0);
        }
        LabelRouter one = new LabelRouter();
        landmarks(one, 1, 0);
        landmarks(one, 2, 0);
        landmarks(one, 40, 0);
        tables(one, 0, 1);
        tables(one, 1, 0);
        tables(one, 2, 0);
    }

    private static void itselfAsWell() {
        landmarks(Nets.ring(6, 3), 1, 0, 1, 2, 3, 4, 5);
        // The balls 0 5, 1 5, 2 5, 3 5, 4 5 and 5 0: node 5 is in all of them.
        landmarks(Nets.star(6, 5), 2, 5);
    }

    private static void asNear() {
        // The balls of a ring of four: 0 1, 1 0, 2 1, 3 0.
        LabelRouter x = Nets.ring(4, 1);
        landmarks(x, 2, 0, 1);
        // With three nodes: 0 1 3, 1 0 2, 2 1 3, 3 0 2; each node is in three of them.
        landmarks(x, 3, 0, 1);
        // The balls of a star about 4: 0 4, 1 4, 2 4, 3 4, 4 0; with three 4 0 1, 0 4 1, 2 4 0 ..
        landmarks(Nets.star(5, 4), 3, 0);
    }

    private static void againAndAgain() {
        // The balls 0 1, 1 0, 2 1, 3 2 and 4 3: with 1 the node 0 is in none that lacks one.
        landmarks(Nets.line(), 2, 1, 3);
        // The balls of a ring of six: 0 1 5, 1 0 2, 2 1 3, 3 2 4, 4 3 5, 5 0 4.
        landmarks(Nets.ring(6, 3), 3, 0, 3);
    }

    private static void ofSeveralTheLowest() {
        // The balls 0 5 1, 1 5 0, 2 5 0 .. 5 0 1: the nodes 0 and 5 are in all of them.
        landmarks(Nets.star(6, 5), 3, 0);
        landmarks(Nets.of(2, new int[][] {{0, 1, 1}}), 2, 0);
    }

    private static void untilEachHasOne() {
        // The pairs 0 1, 2 3 .. 8 9 are each nearer to one another than to all others.
        LabelRouter x = Nets.ring(10, 9);
        for (int i = 0; i < 10; i += 2) {
            x.edge(i, i + 1, 1);
        }
        landmarks(x, 2, 0, 2, 4, 6, 8);
        LabelRouter y = Nets.ring(40, 1000);
        CHECK.answers(40, "each ball its node alone", () -> y.build(1));
        CHECK.answers(39, "the last landmark", () -> y.landmark(39));
        CHECK.answers(1, "each ball all nodes", () -> y.build(40));
        CHECK.answers(0, "the only landmark", () -> y.landmark(0));
    }

    private static void ownIsNearest() {
        LabelRouter x = Nets.ring(6, 3);
        x.build(3);
        tables(x, 2, 0, 0, 3, 3, 3, 0);
        x.edge(0, 1, 7);
        // The landmarks are the same, but 1 has 7 to 0, its neighbour, and 6 to 3.
        landmarks(x, 3, 0, 3);
        tables(x, 2, 0, 3, 3, 3, 3, 0);
    }

    private static void ownOfSeveral() {
        LabelRouter x = Nets.builtLine();
        CHECK.answers(1, "2 is as near to 1 as to 3", () -> x.table(2, 2));
        LabelRouter y = Nets.ring(4, 1);
        y.build(2);
        tables(y, 2, 0, 1, 1, 0);
    }

    private static void clusters() {
        LabelRouter x = Nets.star(6, 5);
        x.build(3);
        tables(x, 1, 0, 1, 1, 1, 1, 5);
        CHECK.answers(3, "5 has 3 in its cluster", () -> x.row(5, 3));
        CHECK.answers(LabelRouter.NONE, "and itself", () -> x.row(5, 5));
        CHECK.noArgument("2 has not 3", () -> x.row(2, 3));
        LabelRouter y = Nets.builtLine();
        tables(y, 1, 1, 0, 1, 0, 1);
    }

    private static void clustersAtTheirBound() {
        LabelRouter less = Nets.triangle(5, 4, 8);
        CHECK.answers(0, "4 is less than 5: a row for it", () -> less.row(2, 1));
        tables(less, 1, 0, 2, 2);
        LabelRouter same = Nets.triangle(5, 5, 10);
        CHECK.noArgument("5 is not less than 5: no row for it", () -> same.row(2, 1));
        tables(same, 1, 0, 2, 1);
        LabelRouter more = Nets.triangle(5, 6, 10);
        CHECK.noArgument("6 is not less than 5: no row for it", () -> more.row(2, 1));
        tables(more, 1, 0, 2, 1);
    }

    private static boolean isLandmark(LabelRouter x, int node) {
        return x.table(node, 2) == node;
    }

    private static void clustersAtMost(LabelRouter x, int most) {
        for (int node = 0; node < 40; node++) {
            CHECK.holds("the cluster of " + node + " is small", x.table(node, 1) <= most);
        }
    }

    private static void crowdedClusters() {
        LabelRouter x = Crowds.made(Crowds.TWO_CROWDED);
        CHECK.answers(9, "8 first ones and 9", () -> x.build(5));
        CHECK.answers(0, "the cluster of 9 is empty now", () -> x.table(9, 1));
        clustersAtMost(x, 20);
        LabelRouter y = Crowds.made(Crowds.CROWDED_TWICE);
        y.edge(11, 26, 1000);
        CHECK.answers(10, "9 first ones and one with more than 18", () -> y.build(4));
        clustersAtMost(y, 18);
    }

    private static void firstOnesCount() {
        LabelRouter x = Crowds.made(Crowds.CROWDED_TWICE);
        x.edge(2, 9, 1000);
        CHECK.answers(11, "10 first ones and 19", () -> x.build(4));
        CHECK.answers(16, "the cluster of 36 has 4 * 40 / 10, more than 4 * 40 / 11",
                () -> x.table(36, 1));
    }

    private static void notMoreThanMayBe() {
        LabelRouter x = Crowds.made(Crowds.CROWDED_TWICE);
        x.edge(7, 36, 387);
        CHECK.answers(10, "the 10 first ones alone", () -> x.build(4));
        CHECK.answers(16, "the cluster of 19 has 4 * 40 / 10", () -> x.table(19, 1));
        CHECK.answers(16, "the cluster of 36, too", () -> x.table(36, 1));
    }

    private static void roundedUp() {
        LabelRouter x = Crowds.made(Crowds.AS_CROWDED_AS_MAY_BE);
        CHECK.answers(9, "the 9 first ones alone", () -> x.build(4));
        CHECK.answers(18, "the cluster of 19: 4 * 40 / 9 is 17.8", () -> x.table(19, 1));
        LabelRouter y = Nets.of(23, Crowds.ROUNDED_FROM_LITTLE);
        CHECK.answers(7, "the 7 first ones alone", () -> y.build(4));
        CHECK.answers(14, "the cluster of 15: 4 * 23 / 7 is 13.1", () -> y.table(15, 1));
    }

    private static void lowestCrowded() {
        LabelRouter x = Crowds.made(Crowds.TWO_CROWDED);
        x.build(5);
        CHECK.holds("9, with 21, is one", isLandmark(x, 9));
        CHECK.holds("38, with 22, is none: its cluster is small then", !isLandmark(x, 38));
        LabelRouter y = Nets.of(30, Crowds.ZERO_CROWDED);
        CHECK.answers(8, "7 first ones and the lowest of all", () -> y.build(4));
        CHECK.answers(0, "that is 0", () -> y.landmark(0));
        CHECK.answers(0, "its cluster is empty now", () -> y.table(0, 1));
    }

    private static void crowdedTwice() {
        LabelRouter x = Crowds.made(Crowds.CROWDED_TWICE);
        CHECK.answers(12, "10 first ones, 19 and 36", () -> x.build(4));
        CHECK.holds("19 is a landmark", isLandmark(x, 19));
        CHECK.holds("36 is a landmark", isLandmark(x, 36));
        clustersAtMost(x, 16);
    }

    private static void inRisingOrder() {
        // The balls 0 1, 1 0, 2 4, 3 4, 4 2, 5 4 and 6 4: the node 4 is chosen first, then 0.
        LabelRouter x = Nets.of(7, new int[][] {
            {0, 1, 1}, {1, 2, 9}, {4, 2, 1}, {4, 3, 1}, {4, 5, 1}, {4, 6, 1}
        });
        landmarks(x, 2, 0, 4);
        landmarks(x, 1, 0, 1, 2, 3, 4, 5, 6);
    }

    private static void notBuilt() {
        LabelRouter x = new LabelRouter();
        CHECK.noState("of a new object", () -> x.landmark(0));
        CHECK.noState("whatever the number", () -> x.landmark(-1));
        x.nodes(2);
        CHECK.noState("after nodes", () -> x.landmark(0));
        CHECK.noState("a build that is refused", () -> x.build(1));
        CHECK.noState("after it", () -> x.landmark(0));
    }

    private static void noSuchLandmark() {
        LabelRouter x = Nets.builtLine();
        CHECK.answers(1, "the first", () -> x.landmark(0));
        CHECK.answers(3, "the last", () -> x.landmark(1));
        for (int no : Nets.notBelow(2)) {
            CHECK.noIndex("landmark(" + no + ")", () -> x.landmark(no));
        }
        LabelRouter y = Nets.ring(40, 1);
        y.build(1);
        CHECK.answers(39, "the last of 40", () -> y.landmark(39));
        CHECK.noIndex("landmark(40)", () -> y.landmark(40));
    }

    private static void rowsOfTables() {
        tables(Nets.builtLine(), 0, 3, 2, 3, 2, 3);
        LabelRouter x = Nets.ring(6, 3);
        x.build(1);
        tables(x, 0, 6, 6, 6, 6, 6, 6);
        LabelRouter y = Nets.star(6, 5);
        y.build(3);
        tables(y, 0, 1, 2, 2, 2, 2, 6);
        CHECK.answers(LabelRouter.NONE, "a landmark has one for itself", () -> y.row(0, 0));
    }

    private static void howManyRows() {
        LabelRouter x = Nets.triangle(5, 4, 8);
        tables(x, 0, 1, 3, 3);
        x.build(1);
        tables(x, 0, 3, 3, 3);
        LabelRouter y = Nets.ring(40, 1);
        y.build(1);
        CHECK.answers(40, "the last of 40", () -> y.table(39, 0));
    }

    private static void sizesOfClusters() {
        LabelRouter x = Nets.ring(6, 3);
        x.build(1);
        tables(x, 1, 0, 0, 0, 0, 0, 0);
        LabelRouter y = Nets.star(6, 5);
        y.build(3);
        tables(y, 1, 0, 1, 1, 1, 1, 5);
    }

    private static void ownLandmarks() {
        tables(Nets.builtLine(), 2, 1, 1, 1, 3, 3);
        LabelRouter x = Nets.ring(6, 3);
        x.build(1);
        tables(x, 2, 0, 1, 2, 3, 4, 5);
    }

    private static void tableOfNothing() {
        LabelRouter x = Nets.line();
        for (int what = 0; what < 3; what++) {
            int at = what;
            CHECK.noState("table(0, " + what + ")", () -> x.table(0, at));
        }
        CHECK.noState("also of no node", () -> x.table(5, 0));
        CHECK.noState("also of no what", () -> x.table(0, 3));
    }

    private static void tableOfNoNode() {
        LabelRouter x = Nets.builtLine();
        for (int no : Nets.notBelow(5)) {
            for (int what = 0; what < 3; what++) {
                int at = what;
                CHECK.noIndex("table(" + no + ", " + what + ")", () -> x.table(no, at));
            }
        }
    }

    private static void tableOfNoWhat() {
        LabelRouter x = Nets.builtLine();
        for (int no : Nets.notBelow(3)) {
            CHECK.noIndex("table(0, " + no + ")", () -> x.table(0, no));
            CHECK.noIndex("table(4, " + no + ")", () -> x.table(4, no));
        }
    }
}
