/** Promises 12 and 14: send and weight. */
public final class PacketTest {
    private static final Check CHECK = new Check();

    public static void main(String[] args) {
        promise12();
        promise14();
        CHECK.end();
    }

    private static void promise12() {
        CHECK.sentence("12: A packet at a node, with another one's label", PacketTest::atANode);
        CHECK.sentence("12: 0 at first", PacketTest::firstNumber);
        CHECK.sentence("12: its number, 0 .. 15", PacketTest::lastNumber);
        CHECK.sentence("12: of the 16 latest in turn", PacketTest::inTurn);
        CHECK.sentence("12: the 16 latest", PacketTest::sixteenLatest);
        CHECK.sentence("12: IllegalStateException likewise", PacketTest::notBuilt);
        CHECK.sentence("12: IndexOutOfBoundsException, when one is no node", PacketTest::noNode);
        CHECK.sentence("12: 0 at first (a refused call takes no number)",
                PacketTest::refusedTakesNoNumber);
    }

    private static void promise14() {
        CHECK.sentence("14: What a packet's hops weighed together", PacketTest::together);
        CHECK.sentence("14: What a packet's hops weighed together (before the first)",
                PacketTest::beforeTheFirst);
        CHECK.sentence("14: What a packet's hops weighed together (when it is there)",
                PacketTest::afterTheLast);
        CHECK.sentence("14: as they were when it was built", PacketTest::asBuilt);
        CHECK.sentence("14: IllegalArgumentException likewise", PacketTest::noPacket);
    }

    private static void atANode() {
        LabelRouter x = Nets.builtLine();
        x.send(4, 0);
        CHECK.answers(3, "from 4 to 0", () -> x.hop(0));
        x.send(0, 4);
        CHECK.answers(1, "from 0 to 4", () -> x.hop(1));
        CHECK.answers(2, "the first goes on", () -> x.hop(0));
        x.send(2, 2);
        CHECK.answers(2, "from 2 to itself", () -> x.hop(2));
    }

    private static void firstNumber() {
        LabelRouter x = Nets.builtLine();
        CHECK.answers(0, "the first", () -> x.send(0, 4));
        CHECK.answers(1, "the second", () -> x.send(0, 4));
        x.build(2);
        CHECK.answers(0, "the first after build", () -> x.send(0, 4));
        x.nodes(1);
        x.build(1);
        CHECK.answers(0, "the first after nodes", () -> x.send(0, 0));
    }

    private static void lastNumber() {
        LabelRouter x = Nets.builtLine();
        for (int i = 0; i < 16; i++) {
            int due = i;
            CHECK.noArgument("no packet " + due, () -> x.weight(due));
            CHECK.answers(due, "packet " + due, () -> x.send(0, 4));
            CHECK.answers(0, "there it is", () -> x.weight(due));
        }
        CHECK.answers(0, "the seventeenth", () -> x.send(0, 4));
        CHECK.noArgument("there is no packet 16", () -> x.weight(16));
    }

    private static void inTurn() {
        LabelRouter x = Nets.builtLine();
        for (int i = 0; i < 50; i++) {
            int due = i % 16;
            CHECK.answers(due, "packet " + i, () -> x.send(0, 4));
        }
    }

    private static void sixteenLatest() {
        LabelRouter x = Nets.builtLine();
        for (int i = 0; i < 16; i++) {
            x.send(0, 4);
            x.hop(i);
        }
        CHECK.answers(1, "the first is there", () -> x.weight(0));
        CHECK.answers(0, "the seventeenth takes its number", () -> x.send(4, 0));
        CHECK.answers(0, "and weighs nothing", () -> x.weight(0));
        CHECK.answers(3, "and is where it was sent from", () -> x.hop(0));
        CHECK.answers(2, "the second is there yet", () -> x.hop(1));
        CHECK.answers(2, "and the sixteenth", () -> x.hop(15));
    }

    private static void notBuilt() {
        LabelRouter x = Nets.line();
        CHECK.noState("send(0, 4)", () -> x.send(0, 4));
        CHECK.noState("also of no node", () -> x.send(-1, 5));
        x.build(2);
        x.nodes(5);
        CHECK.noState("after nodes", () -> x.send(0, 4));
        CHECK.noArgument("what is refused is no packet", () -> x.weight(0));
    }

    private static void noNode() {
        LabelRouter x = Nets.builtLine();
        for (int no : Nets.notBelow(5)) {
            CHECK.noIndex("send(" + no + ", 0)", () -> x.send(no, 0));
            CHECK.noIndex("send(0, " + no + ")", () -> x.send(0, no));
            CHECK.noIndex("send(" + no + ", " + no + ")", () -> x.send(no, no));
        }
    }

    private static void refusedTakesNoNumber() {
        LabelRouter x = Nets.builtLine();
        CHECK.noIndex("send(0, 5)", () -> x.send(0, 5));
        CHECK.noArgument("no packet", () -> x.weight(0));
        CHECK.answers(0, "the first", () -> x.send(0, 4));
        CHECK.noIndex("send(-1, 0)", () -> x.send(-1, 0));
        CHECK.answers(1, "the second", () -> x.send(0, 4));
    }

    private static void together() {
        LabelRouter x = Nets.of(4, new int[][] {{0, 1, 1000}, {1, 2, 1}, {2, 3, 30}});
        x.build(4);
        x.send(3, 0);
        x.send(0, 2);
        int[] due = {30, 31, 1031};
        for (int sum : due) {
            x.hop(0);
            CHECK.answers(sum, "of the first", () -> x.weight(0));
        }
        CHECK.answers(0, "of the second", () -> x.weight(1));
        x.hop(1);
        CHECK.answers(1000, "of the second", () -> x.weight(1));
        CHECK.answers(1031, "the first has its own", () -> x.weight(0));
        LabelRouter y = new LabelRouter();
        y.nodes(40);
        for (int i = 1; i < 40; i++) {
            y.edge(i - 1, i, 1000);
        }
        y.build(40);
        y.send(39, 0);
        for (int i = 0; i < 39; i++) {
            y.hop(0);
        }
        CHECK.answers(39000, "the longest way", () -> y.weight(0));
    }

    private static void beforeTheFirst() {
        LabelRouter x = Nets.builtLine();
        x.send(0, 4);
        CHECK.answers(0, "sent", () -> x.weight(0));
        CHECK.answers(0, "asking changes nothing", () -> x.weight(0));
        CHECK.answers(1, "it is where it was", () -> x.hop(0));
    }

    private static void afterTheLast() {
        LabelRouter x = Nets.builtLine();
        x.send(1, 2);
        x.send(3, 3);
        x.hop(0);
        CHECK.answers(1, "it is there", () -> x.weight(0));
        x.hop(0);
        x.hop(0);
        CHECK.answers(1, "hops of nothing", () -> x.weight(0));
        x.hop(1);
        CHECK.answers(0, "from a node to itself", () -> x.weight(1));
    }

    private static void asBuilt() {
        LabelRouter x = Nets.builtLine();
        x.send(0, 4);
        x.edge(0, 1, 700);
        x.hop(0);
        CHECK.answers(1, "the edge has another weight now", () -> x.weight(0));
        x.cut(1, 2);
        x.hop(0);
        CHECK.answers(2, "the edge is away now", () -> x.weight(0));
    }

    private static void noPacket() {
        LabelRouter x = Nets.line();
        CHECK.noArgument("nothing is built", () -> x.weight(0));
        x.build(2);
        CHECK.noArgument("nothing is sent", () -> x.weight(0));
        x.send(0, 4);
        for (int no : new int[] {-1, 1, 15, 16, 17, Integer.MIN_VALUE, Integer.MAX_VALUE}) {
            CHECK.noArgument("weight(" + no + ")", () -> x.weight(no));
        }
        for (int i = 0; i < 20; i++) {
            x.send(0, 4);
        }
        CHECK.answers(0, "weight(15)", () -> x.weight(15));
        for (int no : Nets.notBelow(16)) {
            CHECK.noArgument("weight(" + no + ")", () -> x.weight(no));
        }
    }
}
