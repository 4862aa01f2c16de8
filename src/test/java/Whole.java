/** All that an object can be asked, as a text: equal texts before and after tell that it stays. */
final class Whole {
    private Whole() {
    }

    /** What is built. With 3 nodes these are 100 calls, with 5 nodes 246. */
    static String built(LabelRouter x, int n) {
        StringBuilder all = new StringBuilder();
        for (int i = 0; i <= n; i++) {
            int a = i;
            add(all, "landmark " + a, () -> x.landmark(a));
        }
        for (int i = 0; i < n; i++) {
            int a = i;
            upTo(3, what -> add(all, "table " + a, () -> x.table(a, what)));
            upTo(5, word -> add(all, "label " + a, () -> x.label(a, word)));
            upTo(n, b -> add(all, "row " + a, () -> x.row(a, b)));
            upTo(n, b -> upTo(4, what -> add(all, "tree " + a, () -> x.tree(a, b, what))));
            upTo(n, b -> upTo(3, what -> add(all, "walk " + a, () -> x.walk(a, b, what))));
        }
        return all.toString();
    }

    /** The edges as they are now. With 3 nodes these are 57 calls. */
    static String network(LabelRouter x, int n) {
        StringBuilder all = new StringBuilder();
        for (int i = 0; i < n; i++) {
            int a = i;
            upTo(16, port -> add(all, "port " + a, () -> x.port(a, port)));
            upTo(n, b -> add(all, "distance " + a, () -> x.distance(a, b)));
        }
        return all.toString();
    }

    /** Which packets there are, and what they weigh: 16 calls. */
    static String packets(LabelRouter x) {
        StringBuilder all = new StringBuilder();
        upTo(16, packet -> add(all, "weight", () -> x.weight(packet)));
        return all.toString();
    }

    private interface Numbered {
        void take(int number);
    }

    private static void upTo(int bound, Numbered each) {
        for (int i = 0; i < bound; i++) {
            each.take(i);
        }
    }

    private static void add(StringBuilder all, String what, Check.Call call) {
        all.append(what).append(": ").append(Check.outcome(call)).append('\n');
    }
}
