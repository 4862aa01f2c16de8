/** Promises 1 to 5 and 15: a new object, nodes, edge, cut, port and distance. */
public final class NetworkTest {
    private static final Check CHECK = new Check();

    public static void main(String[] args) {
        newObject();
        nodes();
        edges();
        edgesRefused();
        fullNodes();
        cuts();
        ports();
        distances();
        CHECK.end();
    }

    private static void newObject() {
        LabelRouter x = new LabelRouter();
        CHECK.answers(0, "new: distance(0, 0)", () -> x.distance(0, 0));
        CHECK.refuses(Nets.NO_INDEX, "new: distance(0, 1)", () -> x.distance(0, 1));
        CHECK.refuses(Nets.NO_STATE, "new: landmark(0)", () -> x.landmark(0));
        CHECK.refuses(Nets.NO_ARGUMENT, "new: hop(0)", () -> x.hop(0));
        for (int port = 0; port < 16; port++) {
            CHECK.is("new: port", x.port(0, port), LabelRouter.NONE);
        }
        CHECK.answers(1, "new: build(1)", () -> x.build(1));
    }

    private static int setNodes(LabelRouter x, int n) {
        x.nodes(n);
        return 0;
    }

    private static void nodes() {
        LabelRouter x = Nets.line();
        x.build(2);
        x.send(0, 4);
        for (int n : new int[] {0, 41, -1, Integer.MIN_VALUE, Integer.MAX_VALUE}) {
            CHECK.refuses(Nets.NO_ARGUMENT, "nodes(" + n + ")", () -> setNodes(x, n));
        }
        CHECK.answers(1, "refused nodes leave the edges", () -> x.port(0, 0));
        CHECK.answers(1, "refused nodes leave the landmarks", () -> x.landmark(0));
        CHECK.answers(1, "refused nodes leave the packets", () -> x.hop(0));
        for (int n : new int[] {40, 1, 5}) {
            CHECK.answers(0, "nodes(" + n + ")", () -> setNodes(x, n));
            CHECK.answers(n > 1 ? -1 : 0, "the last node", () -> x.distance(0, n - 1));
            CHECK.refuses(Nets.NO_INDEX, "no node after it", () -> x.distance(0, n));
            CHECK.answers(-1, "no edge stays", () -> x.port(0, 0));
            CHECK.refuses(Nets.NO_STATE, "nothing is built", () -> x.landmark(0));
            CHECK.refuses(Nets.NO_STATE, "nothing is built: table", () -> x.table(0, 0));
            CHECK.refuses(Nets.NO_STATE, "nothing is built: send", () -> x.send(0, 0));
            CHECK.refuses(Nets.NO_ARGUMENT, "no packet stays", () -> x.hop(0));
            CHECK.refuses(Nets.NO_ARGUMENT, "no packet stays: weight", () -> x.weight(0));
        }
    }

    private static void edges() {
        LabelRouter x = new LabelRouter();
        x.nodes(4);
        CHECK.answers(0, "edge(0, 1, 5)", () -> x.edge(0, 1, 5));
        CHECK.answers(1, "edge(0, 2, 1)", () -> x.edge(0, 2, 1));
        CHECK.answers(0, "edge(3, 0, 1000)", () -> x.edge(3, 0, 1000));
        CHECK.answers(3, "port(0, 2)", () -> x.port(0, 2));
        CHECK.answers(0, "port(3, 0)", () -> x.port(3, 0));
        CHECK.answers(1, "another weight: its port at a", () -> x.edge(0, 2, 9));
        CHECK.answers(0, "another weight: its port at the other end", () -> x.edge(2, 0, 8));
        CHECK.answers(8, "the weight that it has got", () -> x.distance(0, 2));
        CHECK.answers(8, "the weight seen from the other end", () -> x.distance(2, 0));
        CHECK.answers(-1, "another weight takes no port", () -> x.port(0, 3));
    }

    private static void edgesRefused() {
        LabelRouter x = new LabelRouter();
        x.nodes(3);
        x.edge(0, 1, 7);
        for (int no : Nets.notBelow(3)) {
            CHECK.refuses(Nets.NO_INDEX, "edge(" + no + ", 1, 1)", () -> x.edge(no, 1, 1));
            CHECK.refuses(Nets.NO_INDEX, "edge(1, " + no + ", 1)", () -> x.edge(1, no, 1));
            CHECK.refuses(Nets.NO_INDEX, "the node before the same ones", () -> x.edge(no, no, 0));
        }
        for (int weight : new int[] {0, 1001, -1, Integer.MIN_VALUE, Integer.MAX_VALUE}) {
            CHECK.refuses(Nets.NO_ARGUMENT, "edge(0, 2, " + weight + ")", () -> x.edge(0, 2, weight));
            CHECK.refuses(Nets.NO_ARGUMENT, "edge(0, 1, " + weight + ")", () -> x.edge(0, 1, weight));
        }
        CHECK.refuses(Nets.NO_ARGUMENT, "edge(2, 2, 1)", () -> x.edge(2, 2, 1));
        CHECK.answers(-1, "what is refused makes no edge", () -> x.distance(0, 2));
        CHECK.answers(7, "what is refused gives no weight", () -> x.distance(0, 1));
    }

    private static void fullNodes() {
        LabelRouter x = Nets.star(17, 16);
        x.edge(0, 1, 1);
        CHECK.answers(15, "the sixteenth edge", () -> x.edge(16, 15, 2));
        LabelRouter y = new LabelRouter();
        y.nodes(19);
        for (int i = 1; i <= 16; i++) {
            int due = i - 1;
            int other = i;
            CHECK.answers(due, "edge " + i + " of a node", () -> y.edge(0, other, 1));
        }
        CHECK.refuses(Nets.NO_STATE, "a seventeenth edge at a", () -> y.edge(0, 17, 1));
        CHECK.refuses(Nets.NO_STATE, "a seventeenth edge at b", () -> y.edge(17, 0, 1));
        CHECK.refuses(Nets.NO_ARGUMENT, "the weight before the ports", () -> y.edge(0, 17, 0));
        CHECK.refuses(Nets.NO_ARGUMENT, "the same before the ports", () -> y.edge(0, 0, 1));
        CHECK.refuses(Nets.NO_INDEX, "the node before the ports", () -> y.edge(0, 19, 1));
        CHECK.answers(-1, "a refused edge takes no port", () -> y.port(17, 0));
        CHECK.answers(0, "another weight needs no port", () -> y.edge(16, 0, 3));
        CHECK.answers(3, "cut makes room", () -> y.cut(0, 16));
        CHECK.answers(0, "an edge again", () -> y.edge(17, 0, 1));
        CHECK.answers(17, "behind the port that was free", () -> y.port(0, 15));
    }

    private static void cuts() {
        LabelRouter x = Nets.star(6, 0);
        x.edge(0, 2, 20);
        x.edge(0, 4, 1000);
        CHECK.answers(1000, "cut(4, 0)", () -> x.cut(4, 0));
        CHECK.answers(20, "cut(0, 2)", () -> x.cut(0, 2));
        CHECK.refuses(Nets.NO_ARGUMENT, "cut(0, 2) again", () -> x.cut(0, 2));
        CHECK.refuses(Nets.NO_ARGUMENT, "cut(1, 2)", () -> x.cut(1, 2));
        CHECK.refuses(Nets.NO_ARGUMENT, "cut(3, 3)", () -> x.cut(3, 3));
        for (int no : Nets.notBelow(6)) {
            CHECK.refuses(Nets.NO_INDEX, "cut(" + no + ", 0)", () -> x.cut(no, 0));
            CHECK.refuses(Nets.NO_INDEX, "cut(0, " + no + ")", () -> x.cut(0, no));
        }
        CHECK.answers(-1, "the port is free at a", () -> x.port(0, 1));
        CHECK.answers(-1, "the port is free at b", () -> x.port(2, 0));
        CHECK.answers(5, "the others keep theirs", () -> x.port(0, 4));
        CHECK.answers(1, "the lowest free port", () -> x.edge(0, 4, 1));
        CHECK.answers(3, "the next free port", () -> x.edge(0, 2, 1));
    }

    private static void ports() {
        LabelRouter x = Nets.line();
        CHECK.answers(2, "port(1, 0)", () -> x.port(1, 0));
        CHECK.answers(0, "port(1, 1)", () -> x.port(1, 1));
        CHECK.answers(-1, "port(1, 2)", () -> x.port(1, 2));
        CHECK.answers(-1, "port(4, 15)", () -> x.port(4, 15));
        for (int no : Nets.notBelow(5)) {
            CHECK.refuses(Nets.NO_INDEX, "port(" + no + ", 0)", () -> x.port(no, 0));
        }
        for (int no : Nets.notBelow(16)) {
            CHECK.refuses(Nets.NO_INDEX, "port(0, " + no + ")", () -> x.port(0, no));
        }
    }

    private static void distances() {
        LabelRouter x = Nets.ring(6, 10);
        CHECK.answers(30, "distance(0, 3)", () -> x.distance(0, 3));
        x.edge(0, 3, 29);
        CHECK.answers(29, "distance(0, 3) straight", () -> x.distance(0, 3));
        x.edge(0, 3, 31);
        CHECK.answers(30, "distance(0, 3) round", () -> x.distance(3, 0));
        x.build(2);
        x.cut(0, 1);
        CHECK.answers(40, "distance(0, 2) as it is now", () -> x.distance(0, 2));
        x.cut(0, 3);
        x.cut(0, 5);
        CHECK.answers(-1, "no way", () -> x.distance(0, 2));
        CHECK.answers(-1, "no way back", () -> x.distance(2, 0));
        CHECK.answers(0, "from a node to itself", () -> x.distance(0, 0));
        for (int no : Nets.notBelow(6)) {
            CHECK.refuses(Nets.NO_INDEX, "distance(" + no + ", 0)", () -> x.distance(no, 0));
            CHECK.refuses(Nets.NO_INDEX, "distance(0, " + no + ")", () -> x.distance(0, no));
        }
        longestWay();
    }

    private static void longestWay() {
        LabelRouter x = new LabelRouter();
        x.nodes(40);
        for (int i = 1; i < 40; i++) {
            x.edge(i - 1, i, 1000);
        }
        CHECK.answers(39000, "the longest way of all", () -> x.distance(0, 39));
    }
}
