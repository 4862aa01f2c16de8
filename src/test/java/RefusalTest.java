import java.util.function.Consumer;

/**
 * Refused calls. Each promise names its exceptions one after another, as the public face does: of
 * several that fit, the first one is thrown. "Nothing is promised beyond the answers and state
 * changes described above": no change is described for a refused call, nor for one that only asks.
 */
public final class RefusalTest {
    private static final Check CHECK = new Check();

    public static void main(String[] args) {
        order();
        change();
        CHECK.end();
    }

    private static void order() {
        CHECK.sentence("3: IndexOutOfBoundsException; IllegalArgumentException; "
                + "IllegalStateException", RefusalTest::orderOfEdge);
        CHECK.sentence("4: IndexOutOfBoundsException; IllegalArgumentException",
                RefusalTest::orderOfCut);
        CHECK.sentence("6: IllegalArgumentException; IllegalStateException",
                RefusalTest::orderOfBuild);
        CHECK.sentence("7: IllegalStateException; IndexOutOfBoundsException",
                RefusalTest::orderOfLandmark);
        CHECK.sentence("8: IllegalStateException likewise; IndexOutOfBoundsException",
                RefusalTest::orderOfTable);
        CHECK.sentence("9: IllegalStateException likewise; IndexOutOfBoundsException; "
                + "IllegalArgumentException", RefusalTest::orderOfRow);
        CHECK.sentence("10: IllegalStateException likewise; IndexOutOfBoundsException",
                RefusalTest::orderOfLabel);
        CHECK.sentence("11: IllegalStateException likewise; IndexOutOfBoundsException; "
                + "IllegalArgumentException", RefusalTest::orderOfTree);
        CHECK.sentence("12: IllegalStateException likewise; IndexOutOfBoundsException",
                RefusalTest::orderOfSend);
        CHECK.sentence("16: IllegalStateException; IndexOutOfBoundsException",
                RefusalTest::orderOfWalk);
    }

    private static void change() {
        changesNothing("2: nodes", RefusalTest::refusedNodes);
        changesNothing("3: edge", RefusalTest::refusedEdges);
        CHECK.sentence("Not promised: nothing beyond the state changes described (3: edge of a node "
                + "that has 16)", RefusalTest::refusedEdgeOfFullNode);
        changesNothing("4: cut", RefusalTest::refusedCuts);
        changesNothing("5: port", RefusalTest::refusedPorts);
        changesNothing("6: build", RefusalTest::refusedBuilds);
        CHECK.sentence("Not promised: nothing beyond the state changes described (6: build of nodes "
                + "that are not joined)", RefusalTest::refusedBuildOfParts);
        changesNothing("7: landmark", RefusalTest::refusedLandmarks);
        changesNothing("8: table", RefusalTest::refusedTables);
        changesNothing("9: row", RefusalTest::refusedRows);
        changesNothing("10: label", RefusalTest::refusedLabels);
        changesNothing("11: tree", RefusalTest::refusedTrees);
        changesNothing("12: send", RefusalTest::refusedSends);
        changesNothing("13: hop", RefusalTest::refusedHops);
        changesNothing("14: weight", RefusalTest::refusedWeights);
        changesNothing("15: distance", RefusalTest::refusedDistances);
        changesNothing("16: walk", RefusalTest::refusedWalks);
        changesNothing("calls that ask", RefusalTest::all);
        CHECK.sentence("Not promised: nothing beyond the state changes described (refused calls "
                + "before anything is built)", RefusalTest::refusedBeforeBuild);
    }

    private static int setNodes(LabelRouter x, int n) {
        x.nodes(n);
        return 0;
    }

    private static void orderOfEdge() {
        LabelRouter x = new LabelRouter();
        x.nodes(18);
        for (int i = 1; i < 17; i++) {
            x.edge(0, i, 1);
        }
        CHECK.noIndex("no node, the same, no weight", () -> x.edge(18, 18, 0));
        CHECK.noIndex("no node, no weight", () -> x.edge(1, -1, 1001));
        CHECK.noIndex("no node, and 16 at the other", () -> x.edge(0, 18, 1));
        CHECK.noIndex("no node, no weight, and 16 at the other", () -> x.edge(-1, 0, 0));
        CHECK.noArgument("no weight, and 16", () -> x.edge(0, 17, 0));
        CHECK.noArgument("no weight, and 16 at the other", () -> x.edge(17, 0, 1001));
        CHECK.noArgument("the same, and 16", () -> x.edge(0, 0, 1));
        CHECK.noState("16 alone", () -> x.edge(0, 17, 1));
    }

    private static void orderOfCut() {
        LabelRouter x = Nets.line();
        CHECK.noIndex("no node has no edge, the first", () -> x.cut(5, 0));
        CHECK.noIndex("no node has no edge, the second", () -> x.cut(0, -1));
        CHECK.noIndex("no node, and the same", () -> x.cut(5, 5));
        CHECK.noArgument("no edge alone", () -> x.cut(0, 4));
    }

    private static void orderOfBuild() {
        LabelRouter x = new LabelRouter();
        x.nodes(2);
        for (int no : Nets.notUpTo(40)) {
            CHECK.noArgument("a wrong bucket, and not joined", () -> x.build(no));
        }
        CHECK.noState("not joined alone", () -> x.build(1));
        CHECK.noState("not joined alone", () -> x.build(40));
    }

    private static void orderOfLandmark() {
        LabelRouter x = Nets.line();
        for (int no : Nets.notBelow(5)) {
            CHECK.noState("nothing built, no landmark " + no, () -> x.landmark(no));
        }
        x.build(2);
        CHECK.noIndex("no landmark alone", () -> x.landmark(2));
    }

    private static void orderOfTable() {
        LabelRouter x = Nets.line();
        CHECK.noState("nothing built, no node", () -> x.table(5, 0));
        CHECK.noState("nothing built, no what", () -> x.table(0, -1));
        CHECK.noState("nothing built, neither", () -> x.table(-1, 3));
        x.build(2);
        CHECK.noIndex("no node, no what", () -> x.table(5, 3));
    }

    private static void orderOfRow() {
        LabelRouter x = Nets.line();
        CHECK.noState("nothing built, no node", () -> x.row(5, 0));
        CHECK.noState("nothing built, no other node", () -> x.row(0, -1));
        CHECK.noState("nothing built, so no row", () -> x.row(0, 4));
        x.build(2);
        CHECK.noIndex("no node has no row, the first", () -> x.row(5, 0));
        CHECK.noIndex("no node has no row, the second", () -> x.row(0, 5));
        CHECK.noIndex("no node, for itself", () -> x.row(-1, -1));
        CHECK.noArgument("no row alone", () -> x.row(0, 4));
    }

    private static void orderOfLabel() {
        LabelRouter x = Nets.line();
        CHECK.noState("nothing built, no node", () -> x.label(-1, 0));
        CHECK.noState("nothing built, no word", () -> x.label(0, 5));
        CHECK.noState("nothing built, neither", () -> x.label(5, -1));
        x.build(2);
        CHECK.noIndex("no node, no word", () -> x.label(5, 5));
    }

    private static void orderOfTree() {
        LabelRouter x = Nets.line();
        CHECK.noState("nothing built, no node", () -> x.tree(5, 0, 0));
        CHECK.noState("nothing built, no other node", () -> x.tree(0, -1, 0));
        CHECK.noState("nothing built, no what", () -> x.tree(0, 0, 4));
        CHECK.noState("nothing built, no landmark", () -> x.tree(0, 0, 0));
        x.build(2);
        CHECK.noIndex("no node is no landmark", () -> x.tree(5, 0, 0));
        CHECK.noIndex("no landmark, no node", () -> x.tree(0, 5, 0));
        CHECK.noIndex("no landmark, no what", () -> x.tree(0, 0, 4));
        CHECK.noIndex("no landmark, a what below 0", () -> x.tree(4, 0, -1));
        CHECK.noArgument("no landmark alone", () -> x.tree(0, 0, 3));
    }

    private static void orderOfSend() {
        LabelRouter x = Nets.line();
        CHECK.noState("nothing built, no node", () -> x.send(5, 0));
        CHECK.noState("nothing built, no other node", () -> x.send(0, -1));
        x.build(2);
        CHECK.noIndex("no node alone", () -> x.send(0, 5));
    }

    private static void orderOfWalk() {
        LabelRouter x = Nets.line();
        CHECK.noState("nothing built, no node", () -> x.walk(5, 0, 0));
        CHECK.noState("nothing built, no other node", () -> x.walk(0, -1, 0));
        CHECK.noState("nothing built, no what", () -> x.walk(0, 0, 3));
        x.build(2);
        CHECK.noIndex("no node, no what", () -> x.walk(5, 0, 3));
    }

    /** Built, with other edges since then, and packets of which 2 is the next number: 27 calls. */
    private static LabelRouter busy() {
        LabelRouter x = Nets.triangle(3, 7, 8);
        x.edge(1, 2, 2);
        x.cut(0, 1);
        for (int i = 0; i < 18; i++) {
            x.send(2, 1);
        }
        x.hop(1);
        x.hop(5);
        return x;
    }

    /** All that a network of three nodes can be asked: 173 calls. */
    private static String all(LabelRouter x) {
        return Whole.built(x, 3) + Whole.network(x, 3) + Whole.packets(x);
    }

    private static void changesNothing(String what, Consumer<LabelRouter> calls) {
        CHECK.sentence("Not promised: nothing beyond the state changes described (" + what + ")",
                () -> staysAfter(calls));
    }

    /** Two times all, and what comes before, leave some 100 calls of 512 for the refused ones. */
    private static void staysAfter(Consumer<LabelRouter> calls) {
        LabelRouter x = busy();
        String before = all(x);
        calls.accept(x);
        CHECK.same("all that can be asked", all(x), before);
        CHECK.answers(1, "a packet goes on from where it was", () -> x.hop(5));
        CHECK.answers(0, "another goes from where it was sent", () -> x.hop(4));
        CHECK.answers(2, "the next packet has its turn", () -> x.send(0, 0));
        CHECK.answers(2, "an edge has its weight", () -> x.cut(1, 2));
        CHECK.answers(8, "another edge has its weight", () -> x.cut(0, 2));
    }

    private static void refusedNodes(LabelRouter x) {
        for (int no : Nets.notUpTo(40)) {
            CHECK.noArgument("nodes(" + no + ")", () -> setNodes(x, no));
        }
    }

    private static void refusedEdges(LabelRouter x) {
        for (int no : Nets.notBelow(3)) {
            CHECK.noIndex("edge(0, " + no + ", 1)", () -> x.edge(0, no, 1));
            CHECK.noIndex("edge(" + no + ", 1, 1)", () -> x.edge(no, 1, 1));
        }
        for (int no : Nets.notUpTo(1000)) {
            CHECK.noArgument("edge(1, 2, " + no + ")", () -> x.edge(1, 2, no));
            CHECK.noArgument("edge(0, 1, " + no + ")", () -> x.edge(0, 1, no));
        }
        CHECK.noArgument("edge(2, 2, 1)", () -> x.edge(2, 2, 1));
    }

    private static void refusedEdgeOfFullNode() {
        LabelRouter x = new LabelRouter();
        x.nodes(18);
        for (int i = 1; i < 17; i++) {
            x.edge(0, i, 1);
        }
        CHECK.noState("edge(0, 17, 1)", () -> x.edge(0, 17, 1));
        CHECK.noState("edge(17, 0, 1)", () -> x.edge(17, 0, 1));
        CHECK.answers(LabelRouter.NONE, "no port of the other is taken", () -> x.port(17, 0));
        CHECK.answers(LabelRouter.NONE, "there is no way", () -> x.distance(0, 17));
        CHECK.noArgument("there is no edge", () -> x.cut(17, 0));
        CHECK.answers(16, "the last edge stays", () -> x.port(0, 15));
        CHECK.answers(0, "the other has its lowest port free", () -> x.edge(17, 1, 1));
    }

    private static void refusedCuts(LabelRouter x) {
        for (int no : Nets.notBelow(3)) {
            CHECK.noIndex("cut(2, " + no + ")", () -> x.cut(2, no));
            CHECK.noIndex("cut(" + no + ", 2)", () -> x.cut(no, 2));
        }
        CHECK.noArgument("cut(0, 1)", () -> x.cut(0, 1));
        CHECK.noArgument("cut(2, 2)", () -> x.cut(2, 2));
    }

    private static void refusedPorts(LabelRouter x) {
        for (int no : Nets.notBelow(16)) {
            CHECK.noIndex("port(" + no + ", 0)", () -> x.port(no, 0));
            CHECK.noIndex("port(0, " + no + ")", () -> x.port(0, no));
        }
    }

    private static void refusedBuilds(LabelRouter x) {
        for (int no : Nets.notUpTo(40)) {
            CHECK.noArgument("build(" + no + ")", () -> x.build(no));
        }
    }

    private static void refusedBuildOfParts() {
        LabelRouter x = busy();
        x.cut(1, 2);
        String before = all(x);
        CHECK.noState("build(1)", () -> x.build(1));
        CHECK.noState("build(40)", () -> x.build(40));
        CHECK.same("all that can be asked", all(x), before);
        CHECK.answers(1, "a packet goes on from where it was", () -> x.hop(5));
        CHECK.answers(0, "another goes from where it was sent", () -> x.hop(4));
        CHECK.answers(2, "the next packet has its turn", () -> x.send(0, 0));
    }

    private static void refusedLandmarks(LabelRouter x) {
        for (int no : Nets.notBelow(1)) {
            CHECK.noIndex("landmark(" + no + ")", () -> x.landmark(no));
        }
    }

    private static void refusedTables(LabelRouter x) {
        for (int no : Nets.notBelow(3)) {
            CHECK.noIndex("table(" + no + ", 0)", () -> x.table(no, 0));
            CHECK.noIndex("table(0, " + no + ")", () -> x.table(0, no));
        }
    }

    private static void refusedRows(LabelRouter x) {
        for (int no : Nets.notBelow(3)) {
            CHECK.noIndex("row(" + no + ", 0)", () -> x.row(no, 0));
            CHECK.noIndex("row(0, " + no + ")", () -> x.row(0, no));
        }
        CHECK.noArgument("row(2, 1)", () -> x.row(2, 1));
    }

    private static void refusedLabels(LabelRouter x) {
        for (int no : Nets.notBelow(5)) {
            CHECK.noIndex("label(" + no + ", 0)", () -> x.label(no, 0));
            CHECK.noIndex("label(0, " + no + ")", () -> x.label(0, no));
        }
    }

    private static void refusedTrees(LabelRouter x) {
        for (int no : Nets.notBelow(4)) {
            CHECK.noIndex("tree(" + no + ", 0, 0)", () -> x.tree(no, 0, 0));
            CHECK.noIndex("tree(0, " + no + ", 0)", () -> x.tree(0, no, 0));
            CHECK.noIndex("tree(0, 0, " + no + ")", () -> x.tree(0, 0, no));
        }
        CHECK.noArgument("tree(1, 0, 0)", () -> x.tree(1, 0, 0));
    }

    private static void refusedSends(LabelRouter x) {
        for (int no : Nets.notBelow(3)) {
            CHECK.noIndex("send(" + no + ", 0)", () -> x.send(no, 0));
            CHECK.noIndex("send(0, " + no + ")", () -> x.send(0, no));
        }
    }

    private static void refusedHops(LabelRouter x) {
        for (int no : Nets.notBelow(16)) {
            CHECK.noArgument("hop(" + no + ")", () -> x.hop(no));
        }
    }

    private static void refusedWeights(LabelRouter x) {
        for (int no : Nets.notBelow(16)) {
            CHECK.noArgument("weight(" + no + ")", () -> x.weight(no));
        }
    }

    private static void refusedDistances(LabelRouter x) {
        for (int no : Nets.notBelow(3)) {
            CHECK.noIndex("distance(" + no + ", 0)", () -> x.distance(no, 0));
            CHECK.noIndex("distance(0, " + no + ")", () -> x.distance(0, no));
        }
    }

    private static void refusedWalks(LabelRouter x) {
        for (int no : Nets.notBelow(3)) {
            CHECK.noIndex("walk(" + no + ", 0, 0)", () -> x.walk(no, 0, 0));
            CHECK.noIndex("walk(0, " + no + ", 0)", () -> x.walk(0, no, 0));
            CHECK.noIndex("walk(0, 0, " + no + ")", () -> x.walk(0, 0, no));
        }
    }

    private static void refusedBeforeBuild() {
        LabelRouter x = Nets.of(3, new int[][] {{0, 1, 3}, {1, 2, 7}, {0, 2, 8}});
        String before = all(x);
        CHECK.noState("send(2, 1)", () -> x.send(2, 1));
        CHECK.noArgument("hop(0)", () -> x.hop(0));
        CHECK.noArgument("build(41)", () -> x.build(41));
        refusedNodes(x);
        CHECK.same("all that can be asked", all(x), before);
        CHECK.answers(1, "it can be built", () -> x.build(3));
        CHECK.answers(0, "a first packet", () -> x.send(2, 1));
        CHECK.answers(11, "the way as it should be", () -> x.walk(2, 1, 0));
    }
}
