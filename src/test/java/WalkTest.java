/** Promise 16: walk; and no way is more than three times as long as need be. */
public final class WalkTest {
    private static final Check CHECK = new Check();

    public static void main(String[] args) {
        CHECK.sentence("16: What the hops of a packet from a with b's label weigh until it is there "
                + "(what 0)", WalkTest::weights);
        CHECK.sentence("16: how many they are (1)", WalkTest::counts);
        CHECK.sentence("16: the weight in thousandths of d(a, b)", WalkTest::thousandths);
        CHECK.sentence("16: when it was built", WalkTest::whenBuilt);
        CHECK.sentence("16: rounded up", WalkTest::roundedUp);
        CHECK.sentence("16: 1000 from a to itself (2)", WalkTest::toItself);
        CHECK.sentence("16: IllegalStateException, when nothing is built", WalkTest::notBuilt);
        CHECK.sentence("16: IndexOutOfBoundsException, when one is no node", WalkTest::noNode);
        CHECK.sentence("16: or there is no such what", WalkTest::noSuchWhat);
        CHECK.sentence("Not promised: nothing beyond the state changes described (16: walk leaves no "
                + "packet)", WalkTest::noPackets);
        CHECK.sentence("What it is: no way is more than three times as long as need be",
                WalkTest::atMostThreeTimes);
        CHECK.end();
    }

    private static void walk(LabelRouter x, int a, int b, int what, int due) {
        CHECK.answers(due, "walk(" + a + ", " + b + ", " + what + ")", () -> x.walk(a, b, what));
    }

    private static void weights() {
        walk(Nets.builtLine(), 0, 4, 0, 4);
        walk(Nets.builtLine(), 2, 3, 0, 1);
        walk(Nets.triangle(3, 7, 8), 2, 1, 0, 11);
        walk(Nets.triangle(5, 4, 8), 2, 1, 0, 4);
        walk(Nets.triangle(1000, 1000, 1000), 2, 1, 0, 2000);
        LabelRouter x = Nets.lightWay(2, 2, 2, 2);
        walk(x, 15, 30, 0, 8);
    }

    private static void counts() {
        walk(Nets.builtLine(), 0, 4, 1, 4);
        walk(Nets.builtLine(), 2, 3, 1, 1);
        walk(Nets.triangle(3, 7, 8), 2, 1, 1, 2);
        walk(Nets.triangle(5, 4, 8), 2, 1, 1, 1);
        walk(Nets.triangle(1000, 1000, 1000), 2, 1, 1, 2);
        LabelRouter x = Nets.ring(40, 1000);
        x.cut(0, 39);
        x.build(40);
        walk(x, 39, 0, 1, 39);
        walk(x, 39, 0, 0, 39000);
        walk(x, 0, 39, 1, 39);
    }

    private static void thousandths() {
        walk(Nets.builtLine(), 0, 4, 2, 1000);
        walk(Nets.triangle(1, 2, 2), 2, 1, 2, 1500);
        walk(Nets.triangle(333, 666, 999), 2, 1, 2, 2000);
        walk(Nets.triangle(5, 5, 10), 2, 1, 2, 3000);
        walk(Nets.triangle(1, 1, 2), 2, 1, 2, 3000);
        walk(Nets.triangle(500, 500, 1000), 2, 1, 2, 3000);
        walk(Nets.triangle(1, 1000, 1000), 2, 1, 2, 1001);
        walk(Nets.triangle(5, 4, 8), 2, 1, 2, 1000);
    }

    private static void whenBuilt() {
        LabelRouter x = Nets.triangle(3, 7, 8);
        x.edge(1, 2, 1);
        walk(x, 2, 1, 2, 1572);
        walk(x, 2, 1, 0, 11);
        x.cut(0, 1);
        x.cut(1, 2);
        walk(x, 2, 1, 2, 1572);
        walk(x, 2, 1, 1, 2);
        CHECK.answers(LabelRouter.NONE, "there is no way now", () -> x.distance(2, 1));
    }

    private static void roundedUp() {
        // 1571.4, 1333.3, 1666.7, 1001.001 and 2994.01, and what needs no rounding.
        walk(Nets.triangle(3, 7, 8), 2, 1, 2, 1572);
        walk(Nets.triangle(1, 3, 3), 2, 1, 2, 1334);
        walk(Nets.triangle(2, 3, 3), 2, 1, 2, 1667);
        walk(Nets.triangle(1, 999, 999), 2, 1, 2, 1002);
        walk(Nets.triangle(500, 501, 1000), 2, 1, 2, 2995);
        walk(Nets.triangle(1, 2, 2), 2, 1, 2, 1500);
    }

    private static void toItself() {
        LabelRouter x = Nets.builtLine();
        for (int node = 0; node < 5; node++) {
            walk(x, node, node, 0, 0);
            walk(x, node, node, 1, 0);
            walk(x, node, node, 2, 1000);
        }
        LabelRouter one = new LabelRouter();
        one.build(1);
        walk(one, 0, 0, 0, 0);
        walk(one, 0, 0, 1, 0);
        walk(one, 0, 0, 2, 1000);
    }

    private static void notBuilt() {
        LabelRouter x = Nets.line();
        for (int i = 0; i < 3; i++) {
            int what = i;
            CHECK.noState("walk(0, 4, " + what + ")", () -> x.walk(0, 4, what));
        }
        CHECK.noState("from a node to itself", () -> x.walk(0, 0, 2));
        CHECK.noState("also of no node", () -> x.walk(-1, 5, 0));
        CHECK.noState("also of no what", () -> x.walk(0, 4, 3));
        x.build(2);
        x.nodes(5);
        CHECK.noState("after nodes", () -> x.walk(0, 4, 0));
    }

    private static void noNode() {
        LabelRouter x = Nets.builtLine();
        for (int no : Nets.notBelow(5)) {
            CHECK.noIndex("walk(" + no + ", 0, 0)", () -> x.walk(no, 0, 0));
            CHECK.noIndex("walk(0, " + no + ", 0)", () -> x.walk(0, no, 0));
            CHECK.noIndex("walk(" + no + ", " + no + ", 2)", () -> x.walk(no, no, 2));
        }
    }

    private static void noSuchWhat() {
        LabelRouter x = Nets.builtLine();
        for (int no : Nets.notBelow(3)) {
            CHECK.noIndex("walk(0, 1, " + no + ")", () -> x.walk(0, 1, no));
            CHECK.noIndex("walk(1, 1, " + no + ")", () -> x.walk(1, 1, no));
        }
    }

    private static void noPackets() {
        LabelRouter x = Nets.builtLine();
        x.walk(0, 4, 0);
        CHECK.noArgument("no packet", () -> x.hop(0));
        CHECK.answers(0, "no number is taken", () -> x.send(0, 4));
        x.walk(0, 4, 0);
        CHECK.answers(0, "no packet is moved", () -> x.weight(0));
    }

    private static void atMostThreeTimes() {
        int[][][] crowds = {Crowds.TWO_CROWDED, Crowds.CROWDED_TWICE, Crowds.AS_CROWDED_AS_MAY_BE};
        for (int[][] crowd : crowds) {
            for (int bucket = 1; bucket <= 40; bucket += 3) {
                for (int from = 0; from < 40; from += 10) {
                    fromTenNodes(crowd, bucket, from);
                }
            }
        }
        walk(Nets.triangle(5, 5, 10), 2, 1, 2, 3000);
    }

    /** An object for ten nodes alone: nothing is promised after 512 calls. */
    private static void fromTenNodes(int[][] edges, int bucket, int from) {
        LabelRouter x = Crowds.made(edges);
        x.build(bucket);
        for (int pair = 0; pair < 400; pair++) {
            int stretch = x.walk(from + pair / 40, pair % 40, 2);
            CHECK.holds("a walk of " + stretch, stretch >= 1000 && stretch <= 3000);
        }
    }
}
