/** Promises 6 to 8: build, landmark and table. */
public final class BuildTest {
    private static final Check CHECK = new Check();

    public static void main(String[] args) {
        line();
        buckets();
        ties();
        crowdedClusters();
        refusals();
        whatIsBuiltStays();
        failedBuilds();
        builtAnew();
        CHECK.end();
    }

    private static void landmarks(String what, LabelRouter x, int... due) {
        for (int i = 0; i < due.length; i++) {
            int at = i;
            CHECK.answers(due[i], what + ": landmark(" + i + ")", () -> x.landmark(at));
        }
        CHECK.refuses(Nets.NO_INDEX, what + ": no further one", () -> x.landmark(due.length));
    }

    private static void tables(String what, LabelRouter x, int word, int... due) {
        for (int node = 0; node < due.length; node++) {
            int at = node;
            CHECK.answers(due[node], what + ": table(" + node + ", " + word + ")",
                    () -> x.table(at, word));
        }
    }

    private static void line() {
        LabelRouter x = Nets.line();
        CHECK.answers(2, "line: build(2)", () -> x.build(2));
        landmarks("line", x, 1, 3);
        tables("line", x, 0, 3, 2, 3, 2, 3);
        tables("line", x, 1, 1, 0, 1, 0, 1);
        tables("line", x, 2, 1, 1, 1, 3, 3);
    }

    private static void buckets() {
        LabelRouter x = Nets.ring(6, 3);
        CHECK.answers(6, "each ball its node alone", () -> x.build(1));
        landmarks("bucket 1", x, 0, 1, 2, 3, 4, 5);
        tables("bucket 1", x, 0, 6, 6, 6, 6, 6, 6);
        tables("bucket 1", x, 1, 0, 0, 0, 0, 0, 0);
        CHECK.answers(1, "each ball all nodes", () -> x.build(6));
        landmarks("bucket 6", x, 0);
        CHECK.answers(1, "a bucket of more than there are", () -> x.build(40));
        landmarks("bucket 40", x, 0);
        LabelRouter lone = new LabelRouter();
        CHECK.answers(1, "one node", () -> lone.build(40));
        landmarks("one node", lone, 0);
        tables("one node", lone, 0, 1);
        tables("one node", lone, 1, 0);
        tables("one node", lone, 2, 0);
        // The balls of a ring: 0 1 5, 1 0 2, 2 1 3, 3 2 4, 4 3 5, 5 0 4.
        CHECK.answers(2, "balls of three in a ring", () -> x.build(3));
        landmarks("bucket 3", x, 0, 3);
        tables("bucket 3", x, 2, 0, 0, 3, 3, 3, 0);
    }

    private static void ties() {
        // Of the balls 0 5, 1 5 .. 5 0 the node 5 is in all, of 0 1 5, 1 0 5 .. node 0 is, too.
        LabelRouter x = Nets.star(6, 5);
        CHECK.answers(1, "star: build(2)", () -> x.build(2));
        landmarks("star, bucket 2", x, 5);
        CHECK.answers(1, "star: build(3)", () -> x.build(3));
        landmarks("star, bucket 3: the lower of 0 and 5", x, 0);
        tables("star, bucket 3", x, 1, 0, 1, 1, 1, 1, 5);
        // The balls of a ring of four: 0 1, 1 0, 2 1, 3 0: those as near are the lower numbers.
        LabelRouter y = Nets.ring(4, 1);
        CHECK.answers(2, "ring of four: build(2)", () -> y.build(2));
        landmarks("ring of four", y, 0, 1);
        tables("ring of four", y, 2, 0, 1, 1, 0);
        // Node 2 is as near to 1 as to 3: its own is the lower.
        CHECK.answers(1, "own landmark of those as near", () -> {
            LabelRouter z = Nets.line();
            z.build(2);
            return z.table(2, 2);
        });
    }

    private static void crowdedClusters() {
        LabelRouter x = Crowds.made(Crowds.TWO_CROWDED);
        CHECK.answers(9, "8 first ones and 9", () -> x.build(5));
        CHECK.holds("9 is a landmark", isLandmark(x, 9));
        CHECK.holds("38 is none: its cluster is small now", !isLandmark(x, 38));
        CHECK.answers(0, "the cluster of 9 is empty now", () -> x.table(9, 1));
        clustersAtMost(x, 20);
        LabelRouter y = Crowds.made(Crowds.CROWDED_TWICE);
        CHECK.answers(12, "10 first ones, 19 and 36", () -> y.build(4));
        CHECK.holds("19 is a landmark", isLandmark(y, 19));
        CHECK.holds("36 is a landmark", isLandmark(y, 36));
        clustersAtMost(y, 16);
        LabelRouter z = Crowds.made(Crowds.AS_CROWDED_AS_MAY_BE);
        CHECK.answers(9, "the first ones alone", () -> z.build(4));
        CHECK.answers(18, "as many as 4 n / 9, rounded up", () -> z.table(19, 1));
    }

    private static boolean isLandmark(LabelRouter x, int node) {
        return x.table(node, 2) == node;
    }

    private static void clustersAtMost(LabelRouter x, int most) {
        for (int node = 0; node < 40; node++) {
            CHECK.holds("the cluster of " + node + " is small", x.table(node, 1) <= most);
        }
    }

    private static void refusals() {
        LabelRouter x = Nets.line();
        CHECK.refuses(Nets.NO_STATE, "landmark before build", () -> x.landmark(-1));
        CHECK.refuses(Nets.NO_STATE, "table before build", () -> x.table(99, 99));
        for (int no : new int[] {0, 41, -1, Integer.MIN_VALUE, Integer.MAX_VALUE}) {
            CHECK.refuses(Nets.NO_ARGUMENT, "build(" + no + ")", () -> x.build(no));
        }
        x.build(2);
        for (int no : Nets.notBelow(2)) {
            CHECK.refuses(Nets.NO_INDEX, "landmark(" + no + ")", () -> x.landmark(no));
        }
        for (int no : Nets.notBelow(5)) {
            CHECK.refuses(Nets.NO_INDEX, "table(" + no + ", 0)", () -> x.table(no, 0));
        }
        for (int no : Nets.notBelow(3)) {
            CHECK.refuses(Nets.NO_INDEX, "table(0, " + no + ")", () -> x.table(0, no));
        }
    }

    private static void whatIsBuiltStays() {
        LabelRouter x = Nets.line();
        x.build(2);
        x.edge(0, 4, 1);
        x.edge(1, 2, 900);
        x.cut(0, 1);
        landmarks("after other edges", x, 1, 3);
        tables("after other edges", x, 1, 1, 0, 1, 0, 1);
        tables("after other edges", x, 2, 1, 1, 1, 3, 3);
        CHECK.answers(0, "a row is as it was", () -> x.row(0, 1));
        CHECK.answers(1, "a label is as it was", () -> x.label(0, 4));
        CHECK.answers(2, "a tree is as it was", () -> x.tree(1, 1, 2));
    }

    private static void failedBuilds() {
        LabelRouter x = Nets.line();
        x.build(2);
        x.send(0, 4);
        x.hop(0);
        x.cut(3, 4);
        CHECK.refuses(Nets.NO_STATE, "not all are joined", () -> x.build(1));
        CHECK.refuses(Nets.NO_ARGUMENT, "the bucket before the ways", () -> x.build(0));
        landmarks("what was built stays", x, 1, 3);
        CHECK.answers(1, "its packets stay", () -> x.weight(0));
        CHECK.answers(2, "and go on", () -> x.hop(0));
        CHECK.answers(4, "and its ways stay", () -> x.walk(0, 4, 0));
        LabelRouter y = new LabelRouter();
        y.nodes(2);
        CHECK.refuses(Nets.NO_STATE, "two lone nodes", () -> y.build(1));
        CHECK.refuses(Nets.NO_STATE, "nothing is built", () -> y.landmark(0));
    }

    private static void builtAnew() {
        LabelRouter x = Nets.line();
        x.build(1);
        x.send(0, 4);
        x.send(0, 4);
        CHECK.answers(2, "built anew", () -> x.build(2));
        landmarks("built anew", x, 1, 3);
        CHECK.refuses(Nets.NO_ARGUMENT, "no packets then", () -> x.hop(0));
        CHECK.refuses(Nets.NO_ARGUMENT, "no weights then", () -> x.weight(1));
        CHECK.answers(0, "the first packet then", () -> x.send(0, 1));
    }
}
