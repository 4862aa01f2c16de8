/** Promises 12 to 14: send, hop and weight. */
public final class PacketTest {
    private static final Check CHECK = new Check();

    public static void main(String[] args) {
        numbers();
        upAndDown();
        byRow();
        throughALightPort();
        edgesAsBuilt();
        refusals();
        CHECK.end();
    }

    private static void numbers() {
        LabelRouter x = Nets.line();
        x.build(2);
        for (int i = 0; i < 40; i++) {
            int due = i % 16;
            CHECK.answers(due, "packet " + i, () -> x.send(due % 5, 4));
            if (i < 15) {
                int later = i + 1;
                CHECK.refuses(Nets.NO_ARGUMENT, "none after it", () -> x.hop(later));
            }
        }
        CHECK.answers(1, "hop(5), a packet from 0", () -> x.hop(5));
        CHECK.answers(2, "hop(5) again", () -> x.hop(5));
        CHECK.answers(2, "its weight", () -> x.weight(5));
        CHECK.answers(0, "the weight of another", () -> x.weight(6));
        for (int i = 0; i < 14; i++) {
            x.send(4, 0);
        }
        CHECK.answers(0, "a later one has its number", () -> x.weight(5));
        CHECK.answers(3, "and starts where it was sent", () -> x.hop(5));
    }

    private static void hops(LabelRouter x, int packet, int... due) {
        for (int at : due) {
            CHECK.answers(at, "hop(" + packet + ")", () -> x.hop(packet));
        }
    }

    private static void upAndDown() {
        LabelRouter x = Nets.binaryTree();
        x.edge(1, 3, 5);
        x.build(15);
        CHECK.answers(0, "send(7, 14)", () -> x.send(7, 14));
        CHECK.answers(0, "no hop, no weight", () -> x.weight(0));
        hops(x, 0, 3, 1);
        CHECK.answers(6, "two hops", () -> x.weight(0));
        hops(x, 0, 0, 2, 6, 14);
        CHECK.answers(10, "six hops", () -> x.weight(0));
        hops(x, 0, 14, 14);
        CHECK.answers(10, "it has come to its end", () -> x.weight(0));
        CHECK.answers(1, "send(14, 9)", () -> x.send(14, 9));
        hops(x, 1, 6, 2, 0, 1, 4, 9);
        CHECK.answers(2, "send(3, 3)", () -> x.send(3, 3));
        hops(x, 2, 3);
        CHECK.answers(0, "from a node to itself", () -> x.weight(2));
    }

    /** Straight on to a landmark and in clusters, though the own landmark lies elsewhere. */
    private static void byRow() {
        LabelRouter x = Nets.line();
        x.build(2);
        x.send(4, 1);
        hops(x, 0, 3, 2, 1);
        LabelRouter y = Nets.star(6, 5);
        y.build(3);
        y.send(5, 3);
        hops(y, 0, 3);
        y.send(1, 3);
        hops(y, 1, 5, 3);
    }

    /** A node's own landmark is left for a light child: the port in word 4 tells which. */
    private static void throughALightPort() {
        LabelRouter x = Nets.star(17, 0);
        x.build(17);
        for (int to = 2; to <= 16; to++) {
            int packet = x.send(1, to);
            hops(x, packet, 0, to, to);
            CHECK.is("its weight", x.weight(packet), 2);
        }
    }

    private static void edgesAsBuilt() {
        LabelRouter x = Nets.star(5, 0);
        x.build(5);
        x.send(1, 4);
        x.cut(0, 1);
        x.cut(0, 4);
        x.cut(0, 3);
        x.edge(0, 1, 700);
        x.edge(1, 4, 1);
        hops(x, 0, 0, 4);
        CHECK.answers(2, "weights as they were", () -> x.weight(0));
    }

    private static void refusals() {
        LabelRouter x = Nets.line();
        CHECK.refuses(Nets.NO_STATE, "send before build", () -> x.send(-1, 9));
        CHECK.refuses(Nets.NO_ARGUMENT, "hop before build", () -> x.hop(0));
        CHECK.refuses(Nets.NO_ARGUMENT, "weight before build", () -> x.weight(0));
        x.build(2);
        for (int no : Nets.notBelow(5)) {
            CHECK.refuses(Nets.NO_INDEX, "send(" + no + ", 0)", () -> x.send(no, 0));
            CHECK.refuses(Nets.NO_INDEX, "send(0, " + no + ")", () -> x.send(0, no));
        }
        CHECK.answers(0, "what is refused takes no number", () -> x.send(0, 4));
        for (int no : new int[] {-1, 1, 15, 16, Integer.MIN_VALUE, Integer.MAX_VALUE}) {
            CHECK.refuses(Nets.NO_ARGUMENT, "hop(" + no + ")", () -> x.hop(no));
            CHECK.refuses(Nets.NO_ARGUMENT, "weight(" + no + ")", () -> x.weight(no));
        }
        for (int i = 1; i < 20; i++) {
            x.send(0, 4);
        }
        CHECK.refuses(Nets.NO_ARGUMENT, "no packet 16", () -> x.hop(16));
        CHECK.refuses(Nets.NO_ARGUMENT, "no weight 16", () -> x.weight(16));
    }
}
