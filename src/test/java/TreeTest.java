/** Trees, and promise 11: tree. */
public final class TreeTest {
    private static final Check CHECK = new Check();

    public static void main(String[] args) {
        CHECK.sentence("Terms: the parent of each other node is the next one from it towards the "
                + "landmark", TreeTest::parents);
        CHECK.sentence("Terms: SIZE of a node: how many nodes are at or below it", TreeTest::sizes);
        CHECK.sentence("Terms: Its HEAVY child is the one of the greatest size", TreeTest::heavies);
        CHECK.sentence("Terms: HEAVY, of several the lowest", TreeTest::heavyOfSeveral);
        CHECK.sentence("Terms: PLACES: the landmark has 0", TreeTest::placeOfLandmark);
        CHECK.sentence("Terms: a node's heavy child comes first", TreeTest::heavyFirst);
        CHECK.sentence("Terms: then the light ones in rising order", TreeTest::lightsRising);
        CHECK.sentence("Terms: each child's place is one more than the greatest at or below what "
                + "comes before it", TreeTest::placesOfChildren);
        CHECK.sentence("11: Of a node in the tree of a landmark", TreeTest::eachLandmarkHasOne);
        CHECK.sentence("11: its place (what 0), its size (1)", TreeTest::eachWhat);
        CHECK.sentence("11: its heavy child, or NONE (2)", TreeTest::noHeavyChild);
        CHECK.sentence("11: its parent, or NONE (3)", TreeTest::noParent);
        CHECK.sentence("11: IllegalStateException likewise", TreeTest::notBuilt);
        CHECK.sentence("11: IndexOutOfBoundsException, when one is no node", TreeTest::noNode);
        CHECK.sentence("11: or there is no such what", TreeTest::noSuchWhat);
        CHECK.sentence("11: IllegalArgumentException, when landmark is none", TreeTest::noLandmark);
        CHECK.end();
    }

    private static LabelRouter binaryTree() {
        LabelRouter x = Nets.binaryTree(15);
        x.build(15);
        return x;
    }

    /** The answers for all nodes. */
    private static void all(LabelRouter x, int landmark, int what, int... due) {
        for (int i = 0; i < due.length; i++) {
            int node = i;
            CHECK.answers(due[node], "tree(" + landmark + ", " + node + ", " + what + ")",
                    () -> x.tree(landmark, node, what));
        }
    }

    private static void parents() {
        LabelRouter x = Nets.builtLine();
        all(x, 1, 3, 1, -1, 1, 2, 3);
        all(x, 3, 3, 1, 2, 3, -1, 3);
        all(binaryTree(), 0, 3, -1, 0, 0, 1, 1, 2, 2, 3, 3, 4, 4, 5, 5, 6, 6);
        // From 3 the ways by 1 and by 2 weigh the same, and 2 has the lower port.
        LabelRouter y = Nets.of(4, new int[][] {{3, 2, 1}, {3, 1, 1}, {0, 2, 1}, {0, 1, 1}});
        y.build(4);
        all(y, 0, 3, -1, 0, 0, 1);
    }

    private static void sizes() {
        LabelRouter x = Nets.builtLine();
        all(x, 1, 1, 1, 5, 3, 2, 1);
        all(x, 3, 1, 1, 2, 3, 5, 1);
        all(binaryTree(), 0, 1, 15, 7, 7, 3, 3, 3, 3, 1, 1, 1, 1, 1, 1, 1, 1);
        LabelRouter one = new LabelRouter();
        one.build(1);
        all(one, 0, 1, 1);
        LabelRouter y = Nets.ring(40, 1);
        y.cut(0, 39);
        y.build(40);
        CHECK.answers(40, "the greatest of all", () -> y.tree(0, 0, 1));
        CHECK.answers(39, "the next one", () -> y.tree(0, 1, 1));
        CHECK.answers(1, "the last one", () -> y.tree(0, 39, 1));
    }

    private static void heavies() {
        LabelRouter x = Nets.heavyLast();
        CHECK.answers(3, "of the sizes 1, 1 and 2", () -> x.tree(0, 0, 2));
        LabelRouter y = Nets.builtLine();
        CHECK.answers(2, "of the sizes 1 and 3", () -> y.tree(1, 1, 2));
        CHECK.answers(2, "of the sizes 3 and 1", () -> y.tree(3, 3, 2));
    }

    private static void heavyOfSeveral() {
        all(binaryTree(), 0, 2, 1, 3, 5, 7, 9, 11, 13, -1, -1, -1, -1, -1, -1, -1, -1);
        LabelRouter x = Nets.of(4, new int[][] {{0, 3, 1}, {0, 2, 1}, {0, 1, 1}});
        x.build(4);
        CHECK.answers(1, "the lowest, though its port is the highest", () -> x.tree(0, 0, 2));
    }

    private static void placeOfLandmark() {
        LabelRouter x = Nets.builtLine();
        CHECK.answers(0, "of 1", () -> x.tree(1, 1, 0));
        CHECK.answers(0, "of 3", () -> x.tree(3, 3, 0));
        LabelRouter y = Nets.ring(40, 1);
        y.build(1);
        CHECK.answers(0, "of 0", () -> y.tree(0, 0, 0));
        CHECK.answers(0, "of 39", () -> y.tree(39, 39, 0));
    }

    private static void heavyFirst() {
        LabelRouter x = Nets.heavyLast();
        CHECK.answers(1, "the heavy child, though it is the highest", () -> x.tree(0, 3, 0));
        CHECK.answers(2, "what is below it", () -> x.tree(0, 4, 0));
        CHECK.answers(3, "a light one", () -> x.tree(0, 1, 0));
        all(Nets.builtLine(), 1, 0, 4, 0, 1, 2, 3);
    }

    private static void lightsRising() {
        // The edges are made from the highest node on, so that ports fall as numbers rise.
        LabelRouter x = Nets.of(5, new int[][] {{0, 4, 1}, {0, 3, 1}, {0, 2, 1}, {0, 1, 1}});
        x.build(5);
        all(x, 0, 0, 0, 1, 2, 3, 4);
        all(Nets.heavyLast(), 0, 0, 0, 3, 4, 1, 2);
        // Below 0: 3 with 4 and 5, 2 with 6, and 1; the light ones go by number, not by size.
        LabelRouter y = Nets.of(7, new int[][] {
            {0, 3, 1}, {3, 4, 1}, {3, 5, 1}, {0, 2, 1}, {2, 6, 1}, {0, 1, 1}
        });
        y.build(7);
        all(y, 0, 0, 0, 4, 5, 1, 2, 3, 6);
    }

    private static void placesOfChildren() {
        all(binaryTree(), 0, 0, 0, 1, 8, 2, 5, 9, 12, 3, 4, 6, 7, 10, 11, 13, 14);
        LabelRouter x = Nets.star(17, 0);
        x.build(17);
        all(x, 0, 0, 0, 1, 2, 3, 4, 5, 6, 7, 8, 9, 10, 11, 12, 13, 14, 15, 16);
        LabelRouter y = Nets.ring(40, 1);
        y.cut(0, 39);
        y.build(40);
        CHECK.answers(39, "the greatest of all", () -> y.tree(0, 39, 0));
    }

    private static void eachLandmarkHasOne() {
        LabelRouter x = Nets.builtLine();
        all(x, 1, 0, 4, 0, 1, 2, 3);
        all(x, 3, 0, 3, 2, 1, 0, 4);
        x.build(1);
        all(x, 4, 0, 4, 3, 2, 1, 0);
        all(x, 2, 0, 2, 1, 0, 3, 4);
    }

    private static void eachWhat() {
        LabelRouter x = Nets.builtLine();
        int[] of2In1 = {1, 3, 3, 1};
        int[] of1In3 = {2, 2, 0, 2};
        for (int i = 0; i < 4; i++) {
            int what = i;
            CHECK.answers(of2In1[what], "tree(1, 2, " + what + ")", () -> x.tree(1, 2, what));
            CHECK.answers(of1In3[what], "tree(3, 1, " + what + ")", () -> x.tree(3, 1, what));
        }
    }

    private static void noHeavyChild() {
        LabelRouter x = Nets.builtLine();
        all(x, 1, 2, -1, 2, 3, 4, -1);
        all(x, 3, 2, -1, 0, 1, 2, -1);
        LabelRouter one = new LabelRouter();
        one.build(1);
        all(one, 0, 2, LabelRouter.NONE);
    }

    private static void noParent() {
        LabelRouter x = Nets.ring(4, 1);
        x.build(1);
        for (int i = 0; i < 4; i++) {
            int node = i;
            CHECK.answers(LabelRouter.NONE, "of " + node, () -> x.tree(node, node, 3));
        }
        LabelRouter one = new LabelRouter();
        one.build(1);
        all(one, 0, 3, LabelRouter.NONE);
    }

    private static void notBuilt() {
        LabelRouter x = Nets.line();
        CHECK.noState("tree(1, 0, 0)", () -> x.tree(1, 0, 0));
        x.build(2);
        x.nodes(5);
        CHECK.noState("after nodes", () -> x.tree(1, 0, 0));
    }

    private static void noNode() {
        LabelRouter x = Nets.builtLine();
        for (int no : Nets.notBelow(5)) {
            CHECK.noIndex("tree(" + no + ", 0, 0)", () -> x.tree(no, 0, 0));
            CHECK.noIndex("tree(1, " + no + ", 0)", () -> x.tree(1, no, 0));
        }
    }

    private static void noSuchWhat() {
        LabelRouter x = Nets.builtLine();
        for (int no : Nets.notBelow(4)) {
            CHECK.noIndex("tree(1, 0, " + no + ")", () -> x.tree(1, 0, no));
        }
        CHECK.answers(1, "the last what", () -> x.tree(1, 0, 3));
    }

    private static void noLandmark() {
        LabelRouter x = Nets.builtLine();
        for (int none : new int[] {0, 2, 4}) {
            for (int i = 0; i < 4; i++) {
                int what = i;
                CHECK.noArgument("tree(" + none + ", 1, " + what + ")", () -> x.tree(none, 1, what));
            }
        }
        x.build(40);
        CHECK.noArgument("a landmark of an earlier build", () -> x.tree(1, 0, 0));
        CHECK.answers(0, "the one that there is now", () -> x.tree(0, 0, 0));
    }
}
