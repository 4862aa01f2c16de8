/** Promise 16: walk. */
public final class WalkTest {
    private static final Check CHECK = new Check();

    public static void main(String[] args) {
        line();
        roundabout();
        asBuilt();
        refusals();
        noPackets();
        atMostThreeTimes();
        CHECK.end();
    }

    private static void walk(LabelRouter x, int a, int b, int... due) {
        for (int what = 0; what < 3; what++) {
            int at = what;
            CHECK.answers(due[what], "walk(" + a + ", " + b + ", " + what + ")",
                    () -> x.walk(a, b, at));
        }
    }

    private static void line() {
        LabelRouter x = Nets.line();
        x.build(2);
        walk(x, 0, 4, 4, 4, 1000);
        walk(x, 4, 0, 4, 4, 1000);
        walk(x, 2, 3, 1, 1, 1000);
        for (int node = 0; node < 5; node++) {
            walk(x, node, node, 0, 0, 1000);
        }
    }

    /** From 2 to 1 by way of the landmark 0, for 1 is as near to 0 as to 2, or nearer. */
    private static LabelRouter triangle(int toLandmark, int straight, int round) {
        LabelRouter x = new LabelRouter();
        x.nodes(3);
        x.edge(0, 1, toLandmark);
        x.edge(1, 2, straight);
        x.edge(0, 2, round);
        x.build(3);
        return x;
    }

    private static void roundabout() {
        walk(triangle(1, 2, 2), 2, 1, 3, 2, 1500);
        walk(triangle(5, 5, 10), 2, 1, 15, 2, 3000);
        walk(triangle(3, 7, 8), 2, 1, 11, 2, 1572);
        walk(triangle(333, 666, 999), 2, 1, 1332, 2, 2000);
        walk(triangle(1, 3, 3), 2, 1, 4, 2, 1334);
        walk(triangle(5, 4, 8), 2, 1, 4, 1, 1000);
    }

    private static void asBuilt() {
        LabelRouter x = triangle(3, 7, 8);
        x.edge(1, 2, 1);
        x.cut(0, 1);
        walk(x, 2, 1, 11, 2, 1572);
        CHECK.answers(1, "the distance is as it is now", () -> x.distance(2, 1));
    }

    private static void refusals() {
        LabelRouter x = Nets.line();
        CHECK.refuses(Nets.NO_STATE, "walk before build", () -> x.walk(-1, 9, 9));
        x.build(2);
        for (int no : Nets.notBelow(5)) {
            CHECK.refuses(Nets.NO_INDEX, "walk(" + no + ", 0, 0)", () -> x.walk(no, 0, 0));
            CHECK.refuses(Nets.NO_INDEX, "walk(0, " + no + ", 0)", () -> x.walk(0, no, 0));
        }
        for (int no : Nets.notBelow(3)) {
            CHECK.refuses(Nets.NO_INDEX, "walk(0, 1, " + no + ")", () -> x.walk(0, 1, no));
            CHECK.refuses(Nets.NO_INDEX, "walk(1, 1, " + no + ")", () -> x.walk(1, 1, no));
        }
    }

    private static void noPackets() {
        LabelRouter x = Nets.line();
        x.build(2);
        x.walk(0, 4, 0);
        CHECK.refuses(Nets.NO_ARGUMENT, "a walk leaves no packet", () -> x.hop(0));
        CHECK.answers(0, "and takes no number", () -> x.send(0, 4));
    }

    private static void atMostThreeTimes() {
        int[][][] crowds = {Crowds.TWO_CROWDED, Crowds.CROWDED_TWICE, Crowds.AS_CROWDED_AS_MAY_BE};
        for (int[][] crowd : crowds) {
            for (int bucket = 1; bucket <= 40; bucket += 3) {
                for (int from = 0; from < 40; from += 10) {
                    fromTenNodes(crowd, bucket, from);
                }
            }
        }
    }

    /** An object for ten nodes alone: nothing is promised after 512 calls. */
    private static void fromTenNodes(int[][] edges, int bucket, int from) {
        LabelRouter x = Crowds.made(edges);
        x.build(bucket);
        for (int pair = 0; pair < 400; pair++) {
            int stretch = x.walk(from + pair / 40, pair % 40, 2);
            CHECK.holds("a walk of " + stretch, stretch >= 1000 && stretch <= 3000);
        }
    }
}
