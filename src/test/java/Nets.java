/** Networks that several tests use; their answers were worked out by hand. */
final class Nets {
    static final Class<IndexOutOfBoundsException> NO_INDEX = IndexOutOfBoundsException.class;
    static final Class<IllegalArgumentException> NO_ARGUMENT = IllegalArgumentException.class;
    static final Class<IllegalStateException> NO_STATE = IllegalStateException.class;

    private Nets() {
    }

    /** 0 - 1 - 2 - 3 - 4, all of weight 1; the edge 1 - 2 is made first. */
    static LabelRouter line() {
        LabelRouter x = new LabelRouter();
        x.nodes(5);
        x.edge(1, 2, 1);
        x.edge(0, 1, 1);
        x.edge(2, 3, 1);
        x.edge(3, 4, 1);
        return x;
    }

    /** 15 nodes, those below i are 2 i + 1 and 2 i + 2, all of weight 1. */
    static LabelRouter binaryTree() {
        LabelRouter x = new LabelRouter();
        x.nodes(15);
        for (int i = 0; i < 7; i++) {
            x.edge(i, 2 * i + 1, 1);
            x.edge(i, 2 * i + 2, 1);
        }
        return x;
    }

    /** 0 - 1 - .. - n - 1 - 0, all of one weight. */
    static LabelRouter ring(int n, int weight) {
        LabelRouter x = new LabelRouter();
        x.nodes(n);
        for (int i = 0; i < n; i++) {
            x.edge(i, (i + 1) % n, weight);
        }
        return x;
    }

    /** A node joined to all others; n is at most 17. */
    static LabelRouter star(int n, int center) {
        LabelRouter x = new LabelRouter();
        x.nodes(n);
        for (int i = 0; i < n; i++) {
            if (i != center) {
                x.edge(center, i, 1);
            }
        }
        return x;
    }

    /** Numbers of which none is 0 .. bound - 1, the nearest and the farthest. */
    static int[] notBelow(int bound) {
        return new int[] {-1, bound, bound + 100, Integer.MIN_VALUE, Integer.MAX_VALUE};
    }
}
