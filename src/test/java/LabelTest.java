/** Rows and labels: promises 9 and 10. */
public final class LabelTest {
    private static final Check CHECK = new Check();

    public static void main(String[] args) {
        promise9();
        promise10();
        CHECK.end();
    }

    private static void promise9() {
        CHECK.sentence("9: The port of a node's row for another one (a landmark)",
                LabelTest::rowForLandmark);
        CHECK.sentence("9: or one of its cluster", LabelTest::rowInCluster);
        CHECK.sentence("9: NONE for itself", LabelTest::rowForItself);
        CHECK.sentence("9: IllegalStateException likewise", LabelTest::rowOfNothing);
        CHECK.sentence("9: IndexOutOfBoundsException, when one is no node", LabelTest::rowOfNoNode);
        CHECK.sentence("9: IllegalArgumentException, when there is no such row", LabelTest::noSuchRow);
    }

    private static void promise10() {
        CHECK.sentence("Terms: its number (word 0)", LabelTest::numbers);
        CHECK.sentence("Terms: its own landmark (1)", LabelTest::ownLandmarks);
        CHECK.sentence("Terms: its place in that one's tree (2)", LabelTest::places);
        CHECK.sentence("Terms: how many light nodes there are on the way from that landmark down "
                + "to it, itself too (3)", LabelTest::lights);
        CHECK.sentence("Terms: the ports at the parents of these towards them", LabelTest::ports);
        CHECK.sentence("Terms: from the top: the first one in bits 0 .. 3, the next one in bits "
                + "4 .. 7 and so on", LabelTest::bits);
        CHECK.sentence("10: A word (0 .. 4) of a node's label", LabelTest::words);
        CHECK.sentence("10: IllegalStateException likewise", LabelTest::labelOfNothing);
        CHECK.sentence("10: IndexOutOfBoundsException, when there is no such node",
                LabelTest::labelOfNoNode);
        CHECK.sentence("10: or word", LabelTest::noSuchWord);
    }

    private static void row(LabelRouter x, int node, int to, int due) {
        CHECK.answers(due, "row(" + node + ", " + to + ")", () -> x.row(node, to));
    }

    private static void rowForLandmark() {
        LabelRouter x = Nets.builtLine();
        row(x, 0, 1, 0);
        row(x, 0, 3, 0);
        row(x, 1, 3, 0);
        row(x, 2, 1, 0);
        row(x, 2, 3, 1);
        row(x, 3, 1, 0);
        row(x, 4, 1, 0);
        LabelRouter y = Nets.star(17, 16);
        y.build(1);
        row(y, 16, 0, 0);
        row(y, 16, 15, 15);
        y.cut(16, 15);
        row(y, 16, 15, 15);
    }

    private static void rowInCluster() {
        LabelRouter x = Nets.star(6, 5);
        x.build(3);
        row(x, 5, 1, 1);
        row(x, 5, 4, 4);
        x.cut(5, 4);
        x.cut(5, 2);
        CHECK.answers(2, "its port is another now", () -> x.edge(5, 4, 1));
        row(x, 5, 4, 4);
    }

    private static void rowForItself() {
        LabelRouter x = Nets.builtLine();
        for (int node = 0; node < 5; node++) {
            row(x, node, node, LabelRouter.NONE);
        }
        LabelRouter one = new LabelRouter();
        one.build(1);
        row(one, 0, 0, LabelRouter.NONE);
    }

    private static void rowOfNothing() {
        LabelRouter x = Nets.line();
        CHECK.noState("row(0, 1)", () -> x.row(0, 1));
        CHECK.noState("for itself", () -> x.row(0, 0));
        CHECK.noState("also of no node", () -> x.row(5, -1));
        x.build(2);
        x.nodes(5);
        CHECK.noState("after nodes", () -> x.row(0, 1));
    }

    private static void rowOfNoNode() {
        LabelRouter x = Nets.builtLine();
        for (int no : Nets.notBelow(5)) {
            CHECK.noIndex("row(" + no + ", 1)", () -> x.row(no, 1));
            CHECK.noIndex("row(1, " + no + ")", () -> x.row(1, no));
            CHECK.noIndex("row(" + no + ", " + no + ")", () -> x.row(no, no));
            CHECK.noIndex("also where there is no row", () -> x.row(no, 0));
        }
    }

    private static void noSuchRow() {
        LabelRouter x = Nets.builtLine();
        int[][] none = {{0, 2}, {0, 4}, {1, 0}, {1, 2}, {2, 0}, {2, 4}, {3, 4}, {4, 2}};
        for (int[] row : none) {
            CHECK.noArgument("row(" + row[0] + ", " + row[1] + ")", () -> x.row(row[0], row[1]));
        }
        // The cluster of 1 has 2 in it, that of 2 has not 1: 7 and 8 against 7 and 3.
        LabelRouter y = Nets.triangle(3, 7, 8);
        row(y, 1, 2, 1);
        CHECK.noArgument("row(2, 1)", () -> y.row(2, 1));
    }

    /** The answers for some nodes: pairs of a node and its word. */
    private static void word(LabelRouter x, int word, int[]... due) {
        for (int[] pair : due) {
            CHECK.answers(pair[1], "label(" + pair[0] + ", " + word + ")",
                    () -> x.label(pair[0], word));
        }
    }

    private static LabelRouter binaryTree() {
        LabelRouter x = Nets.binaryTree(15);
        x.build(15);
        return x;
    }

    private static void numbers() {
        word(Nets.builtLine(), 0, new int[][] {{0, 0}, {1, 1}, {2, 2}, {3, 3}, {4, 4}});
        LabelRouter x = Nets.ring(40, 1);
        x.build(3);
        word(x, 0, new int[][] {{0, 0}, {39, 39}});
    }

    private static void ownLandmarks() {
        word(Nets.builtLine(), 1, new int[][] {{0, 1}, {1, 1}, {2, 1}, {3, 3}, {4, 3}});
        LabelRouter x = Nets.ring(40, 1);
        x.build(1);
        word(x, 1, new int[][] {{0, 0}, {39, 39}});
    }

    private static void places() {
        // Of its own landmark's tree: 2 has place 1 in that of 1, 4 has 4 in that of 3.
        word(Nets.builtLine(), 2, new int[][] {{0, 4}, {1, 0}, {2, 1}, {3, 0}, {4, 4}});
        word(binaryTree(), 2, new int[][] {{0, 0}, {1, 1}, {2, 8}, {6, 12}, {10, 7}, {14, 14}});
    }

    private static void lights() {
        word(Nets.builtLine(), 3, new int[][] {{0, 1}, {1, 0}, {2, 0}, {3, 0}, {4, 1}});
        word(binaryTree(), 3, new int[][] {
            {0, 0}, {7, 0}, {8, 1}, {9, 1}, {10, 2}, {2, 1}, {5, 1}, {11, 1}, {12, 2}, {13, 2}, {14, 3}
        });
        // More than 4 need more than 40 nodes.
        word(Nets.lightWay(2, 2, 2, 2), 3, new int[][] {{30, 4}, {29, 3}, {14, 3}, {0, 0}});
    }

    private static void ports() {
        // Each child has its parent behind port 0, and its own children behind 1 and 2.
        word(binaryTree(), 4, new int[][] {
            {0, 0}, {7, 0}, {2, 1}, {5, 1}, {8, 2}, {13, 1 + 2 * 16}, {10, 2 + 2 * 16}
        });
        LabelRouter x = Nets.star(17, 0);
        x.build(17);
        word(x, 4, new int[][] {{1, 0}, {2, 1}, {3, 2}, {15, 14}, {16, 15}});
        x.cut(0, 2);
        x.cut(0, 16);
        x.edge(0, 16, 1);
        word(x, 4, new int[][] {{2, 1}, {16, 15}});
        // A light child behind port 0 is there, too: word 3 tells it.
        LabelRouter y = Nets.of(4, new int[][] {{0, 1, 1}, {0, 2, 1}, {2, 3, 1}});
        y.build(4);
        word(y, 4, new int[][] {{1, 0}, {2, 0}, {3, 0}});
        word(y, 3, new int[][] {{1, 1}, {2, 0}, {3, 0}});
    }

    private static void bits() {
        word(binaryTree(), 4, new int[][] {{14, 1 + 2 * 16 + 2 * 256}});
        word(Nets.lightWay(3, 5, 9, 12), 4, new int[][] {
            {2, 0x3}, {5, 0x3}, {6, 0x53}, {13, 0x53}, {14, 0x953}, {29, 0x953}, {30, 0xC953}
        });
        word(Nets.lightWay(15, 15, 15, 15), 4, new int[][] {
            {0, 0}, {2, 0xF}, {6, 0xFF}, {14, 0xFFF}, {30, 0xFFFF}
        });
        word(Nets.lightWay(15, 2, 15, 2), 4, new int[][] {{30, 0x2F2F}});
    }

    private static void words() {
        LabelRouter x = binaryTree();
        int[] due = {14, 0, 14, 3, 1 + 2 * 16 + 2 * 256};
        for (int word = 0; word < 5; word++) {
            word(x, word, new int[] {14, due[word]});
        }
        LabelRouter one = new LabelRouter();
        one.build(1);
        for (int word = 0; word < 5; word++) {
            word(one, word, new int[] {0, 0});
        }
    }

    private static void labelOfNothing() {
        LabelRouter x = Nets.line();
        CHECK.noState("label(0, 0)", () -> x.label(0, 0));
        CHECK.noState("also of no node", () -> x.label(5, 0));
        CHECK.noState("also of no word", () -> x.label(0, 5));
        x.build(2);
        x.nodes(5);
        CHECK.noState("after nodes", () -> x.label(0, 0));
    }

    private static void labelOfNoNode() {
        LabelRouter x = Nets.builtLine();
        for (int no : Nets.notBelow(5)) {
            CHECK.noIndex("label(" + no + ", 0)", () -> x.label(no, 0));
            CHECK.noIndex("label(" + no + ", 4)", () -> x.label(no, 4));
        }
    }

    private static void noSuchWord() {
        LabelRouter x = Nets.builtLine();
        for (int no : Nets.notBelow(5)) {
            CHECK.noIndex("label(0, " + no + ")", () -> x.label(0, no));
            CHECK.noIndex("label(4, " + no + ")", () -> x.label(4, no));
        }
    }
}
