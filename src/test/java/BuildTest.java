/** Promise 6: build. */
public final class BuildTest {
    private static final Check CHECK = new Check();

    public static void main(String[] args) {
        CHECK.sentence("6: The network is BUILT", BuildTest::isBuilt);
        CHECK.sentence("6: The network is BUILT (nothing is left of what was built before)",
                BuildTest::nothingIsLeft);
        CHECK.sentence("6: how many landmarks there are", BuildTest::howMany);
        CHECK.sentence("6: There are no packets then", BuildTest::noPacketsThen);
        CHECK.sentence("6: IllegalArgumentException, when bucket is not 1 .. 40", BuildTest::bucket);
        CHECK.sentence("6: IllegalStateException, when not all nodes are joined by ways",
                BuildTest::notJoined);
        CHECK.sentence("6: what was built stays", BuildTest::builtStays);
        CHECK.sentence("6: what was built stays (so do packets: no change is described)",
                BuildTest::packetsStay);
        CHECK.end();
    }

    private static void isBuilt() {
        LabelRouter x = Nets.line();
        CHECK.noState("before", () -> x.walk(0, 4, 0));
        x.build(2);
        CHECK.answers(4, "built", () -> x.walk(0, 4, 0));
        x.edge(0, 4, 2);
        CHECK.answers(4, "an edge more", () -> x.walk(0, 4, 0));
        x.build(1);
        CHECK.answers(2, "built anew with it", () -> x.walk(0, 4, 0));
        CHECK.answers(4, "the landmarks are new", () -> x.landmark(4));
        x.build(40);
        CHECK.noIndex("there are fewer again", () -> x.landmark(1));
    }

    /** The same edges and bucket, on an object that was built before and on a new one. */
    private static void nothingIsLeft() {
        int[][] edges = {{4, 0, 2}, {4, 1, 9}, {0, 1, 5}, {1, 3, 1}, {3, 2, 4}, {2, 4, 3}};
        for (int bucket = 1; bucket <= 5; bucket++) {
            LabelRouter x = Nets.builtLine();
            for (int i = 1; i < 5; i++) {
                x.cut(i - 1, i);
            }
            for (int[] edge : edges) {
                x.edge(edge[0], edge[1], edge[2]);
            }
            x.build(bucket);
            LabelRouter fresh = Nets.of(5, edges);
            fresh.build(bucket);
            CHECK.same("bucket " + bucket, Whole.built(x, 5), Whole.built(fresh, 5));
        }
    }

    private static void howMany() {
        LabelRouter one = new LabelRouter();
        CHECK.answers(1, "one node", () -> one.build(1));
        LabelRouter x = Nets.ring(40, 7);
        CHECK.answers(40, "bucket 1: all", () -> x.build(1));
        CHECK.answers(1, "bucket 40: one", () -> x.build(40));
        CHECK.answers(2, "a line of five, bucket 2", () -> Nets.line().build(2));
        // 8 first ones, and one whose cluster was too large.
        CHECK.answers(9, "the later ones count", () -> Crowds.made(Crowds.TWO_CROWDED).build(5));
    }

    private static void noPacketsThen() {
        LabelRouter x = Nets.builtLine();
        for (int i = 0; i < 19; i++) {
            x.send(0, 4);
        }
        x.build(2);
        for (int i = 0; i < 16; i++) {
            int packet = i;
            CHECK.noArgument("hop(" + packet + ")", () -> x.hop(packet));
            CHECK.noArgument("weight(" + packet + ")", () -> x.weight(packet));
        }
        CHECK.answers(0, "the first packet has number 0", () -> x.send(0, 4));
        CHECK.answers(0, "and weighs nothing", () -> x.weight(0));
        CHECK.noArgument("and is the only one", () -> x.weight(1));
    }

    private static void bucket() {
        LabelRouter x = Nets.line();
        for (int no : Nets.notUpTo(40)) {
            CHECK.noArgument("build(" + no + ")", () -> x.build(no));
        }
        CHECK.noState("what is refused builds nothing", () -> x.landmark(0));
        CHECK.answers(5, "build(1)", () -> x.build(1));
        CHECK.answers(1, "build(40)", () -> x.build(40));
    }

    private static void notJoined() {
        LabelRouter x = new LabelRouter();
        x.nodes(2);
        CHECK.noState("two lone nodes", () -> x.build(1));
        CHECK.noState("nothing is built", () -> x.landmark(0));
        x.edge(1, 0, 1000);
        CHECK.answers(1, "joined", () -> x.build(2));
        // The last node, the first, and a half of all are apart.
        LabelRouter y = Nets.ring(40, 1);
        y.cut(38, 39);
        CHECK.answers(1, "a line is joined", () -> y.build(40));
        y.cut(39, 0);
        CHECK.noState("39 is apart", () -> y.build(40));
        y.edge(39, 38, 1);
        y.cut(0, 1);
        CHECK.noState("0 is apart", () -> y.build(40));
        y.edge(0, 39, 1);
        y.cut(19, 20);
        CHECK.noState("1 .. 19 are apart", () -> y.build(40));
        y.edge(5, 25, 1);
        CHECK.answers(1, "joined again", () -> y.build(40));
    }

    private static void builtStays() {
        LabelRouter x = Nets.of(4, new int[][] {{0, 1, 3}, {1, 2, 7}, {0, 2, 8}, {2, 3, 5}});
        x.build(3);
        String before = Whole.built(x, 4);
        x.cut(2, 3);
        x.edge(0, 1, 1000);
        CHECK.noState("3 is apart", () -> x.build(1));
        CHECK.noState("with another bucket, too", () -> x.build(40));
        CHECK.same("what was built", Whole.built(x, 4), before);
    }

    private static void packetsStay() {
        LabelRouter x = Nets.builtLine();
        for (int i = 0; i < 18; i++) {
            x.send(0, 4);
        }
        x.hop(3);
        x.cut(3, 4);
        String before = Whole.packets(x);
        CHECK.noState("4 is apart", () -> x.build(1));
        CHECK.same("the packets", Whole.packets(x), before);
        CHECK.answers(2, "a packet goes on", () -> x.hop(3));
        CHECK.answers(1, "another goes", () -> x.hop(15));
        CHECK.answers(2, "the next one takes its turn", () -> x.send(4, 0));
        CHECK.answers(3, "it goes as was built", () -> x.hop(2));
    }
}
