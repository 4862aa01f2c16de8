/** Promises 9 to 11: row, label and tree. */
public final class TableTest {
    private static final Check CHECK = new Check();

    public static void main(String[] args) {
        rows();
        rowsRefused();
        labelsOfALine();
        labelsOfATree();
        labelsRefused();
        treesOfALine();
        treesOfATree();
        treesRefused();
        lowestNext();
        CHECK.end();
    }

    private static void rows() {
        LabelRouter x = Nets.line();
        x.build(2);
        int[][] due = {{0, 1, 0}, {0, 3, 0}, {2, 1, 0}, {2, 3, 1}, {1, 3, 0}, {3, 1, 0}, {4, 1, 0}};
        for (int[] row : due) {
            CHECK.answers(row[2], "row(" + row[0] + ", " + row[1] + ")", () -> x.row(row[0], row[1]));
        }
        for (int node = 0; node < 5; node++) {
            int at = node;
            CHECK.answers(LabelRouter.NONE, "for itself, " + node, () -> x.row(at, at));
        }
        LabelRouter y = Nets.star(6, 5);
        y.build(3);
        CHECK.answers(0, "for a landmark", () -> y.row(5, 0));
        CHECK.answers(3, "for one of its cluster", () -> y.row(5, 3));
        CHECK.answers(0, "from a leaf", () -> y.row(3, 0));
        y.cut(5, 3);
        y.cut(5, 2);
        y.edge(5, 3, 1);
        CHECK.answers(2, "the port is another now", () -> y.edge(5, 3, 1));
        CHECK.answers(3, "the row has the port as it was", () -> y.row(5, 3));
    }

    private static void rowsRefused() {
        LabelRouter x = Nets.line();
        CHECK.refuses(Nets.NO_STATE, "row before build", () -> x.row(-1, 9));
        x.build(2);
        int[][] none = {{0, 2}, {0, 4}, {1, 0}, {1, 2}, {2, 0}, {2, 4}, {3, 4}, {4, 2}};
        for (int[] row : none) {
            CHECK.refuses(Nets.NO_ARGUMENT, "row(" + row[0] + ", " + row[1] + ")",
                    () -> x.row(row[0], row[1]));
        }
        for (int no : Nets.notBelow(5)) {
            CHECK.refuses(Nets.NO_INDEX, "row(" + no + ", 1)", () -> x.row(no, 1));
            CHECK.refuses(Nets.NO_INDEX, "row(1, " + no + ")", () -> x.row(1, no));
        }
    }

    private static void label(LabelRouter x, int node, int... due) {
        for (int word = 0; word < 5; word++) {
            int at = word;
            CHECK.answers(due[word], "label(" + node + ", " + word + ")", () -> x.label(node, at));
        }
    }

    private static void labelsOfALine() {
        LabelRouter x = Nets.line();
        x.build(2);
        label(x, 0, 0, 1, 4, 1, 1);
        label(x, 1, 1, 1, 0, 0, 0);
        label(x, 2, 2, 1, 1, 0, 0);
        label(x, 3, 3, 3, 0, 0, 0);
        label(x, 4, 4, 3, 4, 1, 1);
    }

    private static void labelsOfATree() {
        LabelRouter x = Nets.binaryTree();
        x.build(15);
        label(x, 7, 7, 0, 3, 0, 0);
        label(x, 13, 13, 0, 13, 2, 1 + 2 * 16);
        label(x, 14, 14, 0, 14, 3, 1 + 2 * 16 + 2 * 256);
        label(x, 10, 10, 0, 7, 2, 2 + 2 * 16);
        label(x, 12, 12, 0, 11, 2, 1 + 2 * 16);
        label(x, 5, 5, 0, 9, 1, 1);
        LabelRouter y = Nets.star(17, 0);
        y.build(17);
        label(y, 1, 1, 0, 1, 0, 0);
        label(y, 16, 16, 0, 16, 1, 15);
    }

    private static void labelsRefused() {
        LabelRouter x = Nets.line();
        CHECK.refuses(Nets.NO_STATE, "label before build", () -> x.label(-1, 9));
        x.build(2);
        for (int no : Nets.notBelow(5)) {
            CHECK.refuses(Nets.NO_INDEX, "label(" + no + ", 0)", () -> x.label(no, 0));
            CHECK.refuses(Nets.NO_INDEX, "label(0, " + no + ")", () -> x.label(0, no));
        }
    }

    private static void tree(LabelRouter x, int landmark, int node, int... due) {
        for (int what = 0; what < 4; what++) {
            int at = what;
            CHECK.answers(due[what], "tree(" + landmark + ", " + node + ", " + what + ")",
                    () -> x.tree(landmark, node, at));
        }
    }

    private static void treesOfALine() {
        LabelRouter x = Nets.line();
        x.build(2);
        tree(x, 1, 0, 4, 1, -1, 1);
        tree(x, 1, 1, 0, 5, 2, -1);
        tree(x, 1, 2, 1, 3, 3, 1);
        tree(x, 1, 3, 2, 2, 4, 2);
        tree(x, 1, 4, 3, 1, -1, 3);
        tree(x, 3, 0, 3, 1, -1, 1);
        tree(x, 3, 1, 2, 2, 0, 2);
        tree(x, 3, 2, 1, 3, 1, 3);
        tree(x, 3, 3, 0, 5, 2, -1);
        tree(x, 3, 4, 4, 1, -1, 3);
    }

    private static void treesOfATree() {
        LabelRouter x = Nets.binaryTree();
        x.build(15);
        tree(x, 0, 0, 0, 15, 1, -1);
        tree(x, 0, 1, 1, 7, 3, 0);
        tree(x, 0, 2, 8, 7, 5, 0);
        tree(x, 0, 6, 12, 3, 13, 2);
        tree(x, 0, 14, 14, 1, -1, 6);
        // The heavy child is the greater one, also when its number is the higher.
        LabelRouter y = new LabelRouter();
        y.nodes(5);
        y.edge(0, 1, 1);
        y.edge(0, 2, 1);
        y.edge(0, 3, 1);
        y.edge(3, 4, 1);
        y.build(5);
        tree(y, 0, 3, 1, 2, 4, 0);
        tree(y, 0, 1, 3, 1, -1, 0);
        tree(y, 0, 2, 4, 1, -1, 0);
        tree(y, 0, 0, 0, 5, 3, -1);
        label(y, 2, 2, 0, 4, 1, 1);
    }

    private static void treesRefused() {
        LabelRouter x = Nets.line();
        CHECK.refuses(Nets.NO_STATE, "tree before build", () -> x.tree(-1, 9, 9));
        x.build(2);
        for (int no : Nets.notBelow(5)) {
            CHECK.refuses(Nets.NO_INDEX, "tree(" + no + ", 0, 0)", () -> x.tree(no, 0, 0));
            CHECK.refuses(Nets.NO_INDEX, "tree(1, " + no + ", 0)", () -> x.tree(1, no, 0));
            CHECK.refuses(Nets.NO_INDEX, "the node before the landmark", () -> x.tree(0, no, 0));
        }
        for (int no : Nets.notBelow(4)) {
            CHECK.refuses(Nets.NO_INDEX, "tree(1, 0, " + no + ")", () -> x.tree(1, 0, no));
            CHECK.refuses(Nets.NO_INDEX, "the what before the landmark", () -> x.tree(0, 0, no));
        }
        for (int none : new int[] {0, 2, 4}) {
            CHECK.refuses(Nets.NO_ARGUMENT, "tree(" + none + ", 0, 0)", () -> x.tree(none, 0, 0));
        }
    }

    /** Of several ways as short the lowest neighbour counts, not the lowest port. */
    private static void lowestNext() {
        LabelRouter x = new LabelRouter();
        x.nodes(4);
        x.edge(3, 2, 1);
        x.edge(3, 1, 1);
        x.edge(0, 2, 1);
        x.edge(0, 1, 1);
        x.build(4);
        CHECK.answers(1, "the parent of 3", () -> x.tree(0, 3, 3));
        CHECK.answers(1, "the port of 3 for 0", () -> x.row(3, 0));
        CHECK.answers(1, "the heavy child of 0", () -> x.tree(0, 0, 2));
    }
}
