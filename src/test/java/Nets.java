/** Networks that several tests use; their answers were worked out by hand. */
final class Nets {
    private Nets() {
    }

    static LabelRouter of(int n, int[]... edges) {
        LabelRouter x = new LabelRouter();
        x.nodes(n);
        for (int[] edge : edges) {
            x.edge(edge[0], edge[1], edge[2]);
        }
        return x;
    }

    /** 0 - 1 - 2 - 3 - 4, all of weight 1; the edge 1 - 2 is made first. */
    static LabelRouter line() {
        return of(5, new int[][] {{1, 2, 1}, {0, 1, 1}, {2, 3, 1}, {3, 4, 1}});
    }

    /** The line, built with bucket 2: its landmarks are 1 and 3. */
    static LabelRouter builtLine() {
        LabelRouter x = line();
        x.build(2);
        return x;
    }

    /**
     * Three nodes, built with bucket 3, so that 0 is the one landmark. From 2 to 1 a packet goes
     * by way of 0, unless straight is less than toLandmark.
     */
    static LabelRouter triangle(int toLandmark, int straight, int round) {
        LabelRouter x = of(3, new int[][] {{0, 1, toLandmark}, {1, 2, straight}, {0, 2, round}});
        x.build(3);
        return x;
    }

    /** The nodes below i are 2 i + 1 and 2 i + 2, all of weight 1. */
    static LabelRouter binaryTree(int n) {
        LabelRouter x = new LabelRouter();
        x.nodes(n);
        for (int i = 1; i < n; i++) {
            x.edge((i - 1) / 2, i, 1);
        }
        return x;
    }

    /** Below 0 are 1, 2 and 3, below 3 is 4: the heavy child has the highest number. */
    static LabelRouter heavyLast() {
        LabelRouter x = of(5, new int[][] {{0, 1, 1}, {0, 2, 1}, {0, 3, 1}, {3, 4, 1}});
        x.build(5);
        return x;
    }

    /** 0 - 1 - .. - n - 1 - 0, all of one weight. */
    static LabelRouter ring(int n, int weight) {
        LabelRouter x = new LabelRouter();
        x.nodes(n);
        for (int i = 0; i < n; i++) {
            x.edge(i, (i + 1) % n, weight);
        }
        return x;
    }

    /** A node joined to all others; n is at most 17. */
    static LabelRouter star(int n, int center) {
        LabelRouter x = new LabelRouter();
        x.nodes(n);
        for (int i = 0; i < n; i++) {
            if (i != center) {
                x.edge(center, i, 1);
            }
        }
        return x;
    }

    /** Makes an edge at a port of a: other edges, away again later, take the ones before it. */
    static void edgeAtPort(LabelRouter x, int a, int b, int port, int[] fillers) {
        int used = 0;
        for (int lower = 0; lower < port; lower++) {
            if (x.port(a, lower) == LabelRouter.NONE) {
                x.edge(a, fillers[used], 1);
                used++;
            }
        }
        x.edge(a, b, 1);
        for (int i = 0; i < used; i++) {
            x.cut(a, fillers[i]);
        }
    }

    /** A binary tree of 31 nodes, built: the ports on the way 0, 2, 6, 14, 30 are the given ones. */
    static LabelRouter lightWay(int... ports) {
        LabelRouter x = binaryTree(31);
        int[] fillers = {15, 16, 17, 18, 19, 20, 21, 22, 23, 24, 25, 26, 27, 28, 7, 8, 9};
        for (int level = 0; level < 4; level++) {
            int a = (2 << level) - 2;
            x.cut(a, 2 * a + 2);
            edgeAtPort(x, a, 2 * a + 2, ports[level], fillers);
        }
        x.build(40);
        return x;
    }

    /** Numbers of which none is 0 .. bound - 1, the nearest and the farthest. */
    static int[] notBelow(int bound) {
        return new int[] {-1, bound, bound + 100, Integer.MIN_VALUE, Integer.MAX_VALUE};
    }

    /** Numbers of which none is 1 .. most, the nearest and the farthest. */
    static int[] notUpTo(int most) {
        return new int[] {0, most + 1, -1, Integer.MIN_VALUE, Integer.MAX_VALUE};
    }
}
