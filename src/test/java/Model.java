import java.util.ArrayList;
import java.util.Collections;
import java.util.Comparator;
import java.util.List;
import java.util.Map;
import java.util.TreeMap;
import java.util.TreeSet;

/**
 * The document once more, as near to its words as can be and without regard to cost: what the
 * program answers is held against it. It shares no code with the program.
 */
final class Model {
    static final int FAR = 1_000_000;

    private int n = 1;
    private List<Map<Integer, Integer>> nodeAtPort = new ArrayList<>();
    private int[][] weights = new int[1][1];
    private Built built;
    private final List<int[]> packets = new ArrayList<>();

    Model() {
        setNodes(1);
    }

    private void setNodes(int count) {
        n = count;
        nodeAtPort = new ArrayList<>();
        for (int i = 0; i < n; i++) {
            nodeAtPort.add(new TreeMap<>());
        }
        weights = new int[n][n];
        built = null;
        packets.clear();
    }

    private void index(boolean so) {
        if (!so) {
            throw new IndexOutOfBoundsException();
        }
    }

    private void argument(boolean so) {
        if (!so) {
            throw new IllegalArgumentException();
        }
    }

    private void state(boolean so) {
        if (!so) {
            throw new IllegalStateException();
        }
    }

    private void node(int node) {
        index(0 <= node && node < n);
    }

    int nodes(int count) {
        argument(1 <= count && count <= 40);
        setNodes(count);
        return 0;
    }

    private static int portTo(List<Map<Integer, Integer>> ports, int a, int b) {
        for (Map.Entry<Integer, Integer> entry : ports.get(a).entrySet()) {
            if (entry.getValue() == b) {
                return entry.getKey();
            }
        }
        return -1;
    }

    int edge(int a, int b, int weight) {
        node(a);
        node(b);
        argument(a != b && 1 <= weight && weight <= 1000);
        if (weights[a][b] == 0) {
            state(nodeAtPort.get(a).size() < 16 && nodeAtPort.get(b).size() < 16);
            plug(a, b);
            plug(b, a);
        }
        weights[a][b] = weight;
        weights[b][a] = weight;
        return portTo(nodeAtPort, a, b);
    }

    private void plug(int a, int b) {
        int port = 0;
        while (nodeAtPort.get(a).containsKey(port)) {
            port++;
        }
        nodeAtPort.get(a).put(port, b);
    }

    int cut(int a, int b) {
        node(a);
        node(b);
        argument(weights[a][b] != 0);
        int weight = weights[a][b];
        nodeAtPort.get(a).remove(portTo(nodeAtPort, a, b));
        nodeAtPort.get(b).remove(portTo(nodeAtPort, b, a));
        weights[a][b] = 0;
        weights[b][a] = 0;
        return weight;
    }

    int port(int node, int port) {
        node(node);
        index(0 <= port && port <= 15);
        return nodeAtPort.get(node).getOrDefault(port, -1);
    }

    private int[][] distances() {
        int[][] d = new int[n][n];
        for (int a = 0; a < n; a++) {
            for (int b = 0; b < n; b++) {
                d[a][b] = a == b ? 0 : weights[a][b] == 0 ? FAR : weights[a][b];
            }
        }
        for (int k = 0; k < n; k++) {
            for (int a = 0; a < n; a++) {
                for (int b = 0; b < n; b++) {
                    d[a][b] = Math.min(d[a][b], d[a][k] + d[k][b]);
                }
            }
        }
        return d;
    }

    int build(int bucket) {
        argument(1 <= bucket && bucket <= 40);
        int[][] d = distances();
        for (int a = 0; a < n; a++) {
            state(d[0][a] < FAR);
        }
        built = new Built(this, d, bucket);
        packets.clear();
        return built.landmarks.size();
    }

    int firstLandmarks() {
        return built.first;
    }

    int landmark(int i) {
        state(built != null);
        index(0 <= i && i < built.landmarks.size());
        return new ArrayList<>(built.landmarks).get(i);
    }

    int table(int node, int what) {
        state(built != null);
        node(node);
        index(0 <= what && what <= 2);
        TreeSet<Integer> rows = new TreeSet<>(built.landmarks);
        rows.addAll(built.cluster(node));
        return what == 0 ? rows.size() : what == 1 ? built.cluster(node).size() : built.own(node);
    }

    int row(int node, int to) {
        state(built != null);
        node(node);
        node(to);
        argument(built.landmarks.contains(to) || built.cluster(node).contains(to));
        return node == to ? -1 : portTo(built.ports, node, built.next(node, to));
    }

    int label(int node, int word) {
        state(built != null);
        node(node);
        index(0 <= word && word <= 4);
        return built.label(node)[word];
    }

    int tree(int landmark, int node, int what) {
        state(built != null);
        node(landmark);
        node(node);
        index(0 <= what && what <= 3);
        argument(built.landmarks.contains(landmark));
        switch (what) {
            case 0:
                return built.place(landmark, node);
            case 1:
                return built.size(landmark, node);
            case 2:
                return built.heavy(landmark, node);
            default:
                return built.parent(landmark, node);
        }
    }

    int send(int from, int to) {
        state(built != null);
        node(from);
        node(to);
        packets.add(new int[] {from, to, 0});
        return (packets.size() - 1) % 16;
    }

    private int[] packet(int number) {
        for (int i = packets.size() - 1; i >= 0 && i >= packets.size() - 16; i--) {
            if (i % 16 == number) {
                return packets.get(i);
            }
        }
        throw new IllegalArgumentException();
    }

    int hop(int number) {
        int[] packet = packet(number);
        int next = built.hop(packet[0], packet[1]);
        packet[2] += built.weights[packet[0]][next];
        packet[0] = next;
        return next;
    }

    int weight(int number) {
        return packet(number)[2];
    }

    int distance(int a, int b) {
        node(a);
        node(b);
        int d = distances()[a][b];
        return d < FAR ? d : -1;
    }

    int walk(int a, int b, int what) {
        state(built != null);
        node(a);
        node(b);
        index(0 <= what && what <= 2);
        int at = a;
        int hops = 0;
        int weight = 0;
        while (at != b) {
            int next = built.hop(at, b);
            weight += built.weights[at][next];
            hops++;
            at = next;
        }
        if (what == 2) {
            return a == b ? 1000 : (int) Math.ceil(weight * 1000.0 / built.d[a][b]);
        }
        return what == 0 ? weight : hops;
    }

    /** What is built, asked anew each time. */
    private static final class Built {
        final int n;
        final int[][] d;
        final int[][] weights;
        final List<Map<Integer, Integer>> ports = new ArrayList<>();
        final TreeSet<Integer> landmarks = new TreeSet<>();
        final int first;

        Built(Model model, int[][] d, int bucket) {
            this.n = model.n;
            this.d = d;
            this.weights = new int[n][];
            for (int a = 0; a < n; a++) {
                weights[a] = model.weights[a].clone();
                ports.add(new TreeMap<>(model.nodeAtPort.get(a)));
            }
            chooseFirst(bucket);
            first = landmarks.size();
            chooseMore();
        }

        private void chooseFirst(int bucket) {
            List<List<Integer>> balls = new ArrayList<>();
            for (int a = 0; a < n; a++) {
                balls.add(ball(a, bucket));
            }
            while (true) {
                balls.removeIf(ball -> !Collections.disjoint(ball, landmarks));
                if (balls.isEmpty()) {
                    return;
                }
                int best = 0;
                for (int a = 1; a < n; a++) {
                    best = times(balls, a) > times(balls, best) ? a : best;
                }
                landmarks.add(best);
            }
        }

        private static long times(List<List<Integer>> balls, int node) {
            return balls.stream().filter(ball -> ball.contains(node)).count();
        }

        private List<Integer> ball(int a, int bucket) {
            List<Integer> all = new ArrayList<>();
            for (int b = 0; b < n; b++) {
                all.add(b);
            }
            all.sort(Comparator.<Integer>comparingInt(b -> d[a][b]).thenComparingInt(b -> b));
            return all.subList(0, Math.min(bucket, n));
        }

        private void chooseMore() {
            double most = Math.ceil(4.0 * n / first);
            boolean found = true;
            while (found) {
                found = false;
                for (int a = 0; a < n && !found; a++) {
                    if (cluster(a).size() > most) {
                        landmarks.add(a);
                        found = true;
                    }
                }
            }
        }

        int own(int a) {
            int best = landmarks.first();
            for (int l : landmarks) {
                best = d[a][l] < d[a][best] ? l : best;
            }
            return best;
        }

        TreeSet<Integer> cluster(int a) {
            TreeSet<Integer> in = new TreeSet<>();
            for (int c = 0; c < n; c++) {
                if (d[a][c] < d[c][own(c)]) {
                    in.add(c);
                }
            }
            return in;
        }

        int next(int a, int b) {
            for (int c = 0; c < n; c++) {
                if (weights[a][c] != 0 && weights[a][c] + d[c][b] == d[a][b]) {
                    return c;
                }
            }
            throw new AssertionError("no way");
        }

        int parent(int root, int a) {
            return a == root ? -1 : next(a, root);
        }

        private List<Integer> wayDown(int root, int a) {
            List<Integer> way = new ArrayList<>();
            for (int at = a; at != -1; at = parent(root, at)) {
                way.add(0, at);
            }
            return way;
        }

        int size(int root, int a) {
            int below = 0;
            for (int b = 0; b < n; b++) {
                below += wayDown(root, b).contains(a) ? 1 : 0;
            }
            return below;
        }

        private List<Integer> children(int root, int a) {
            List<Integer> children = new ArrayList<>();
            for (int b = 0; b < n; b++) {
                if (parent(root, b) == a) {
                    children.add(b);
                }
            }
            return children;
        }

        int heavy(int root, int a) {
            int best = -1;
            for (int child : children(root, a)) {
                best = best == -1 || size(root, child) > size(root, best) ? child : best;
            }
            return best;
        }

        /** Places number the nodes in the order in which they are met, heavy children first. */
        int place(int root, int a) {
            List<Integer> met = new ArrayList<>();
            meet(root, root, met);
            return met.indexOf(a);
        }

        private void meet(int root, int a, List<Integer> met) {
            met.add(a);
            int heavy = heavy(root, a);
            if (heavy != -1) {
                meet(root, heavy, met);
            }
            for (int child : children(root, a)) {
                if (child != heavy) {
                    meet(root, child, met);
                }
            }
        }

        private List<Integer> lights(int root, int a) {
            List<Integer> lights = new ArrayList<>();
            for (int b : wayDown(root, a)) {
                if (b != root && heavy(root, parent(root, b)) != b) {
                    lights.add(b);
                }
            }
            return lights;
        }

        int[] label(int a) {
            int root = own(a);
            List<Integer> lights = lights(root, a);
            int word = 0;
            for (int i = 0; i < lights.size(); i++) {
                word += portTo(ports, parent(root, lights.get(i)), lights.get(i)) * (1 << 4 * i);
            }
            return new int[] {a, root, place(root, a), lights.size(), word};
        }

        private boolean below(int root, int a, int place) {
            int first = place(root, a);
            return first <= place && place <= first + size(root, a) - 1;
        }

        int hop(int at, int to) {
            if (at == to) {
                return at;
            }
            if (landmarks.contains(to) || cluster(at).contains(to)) {
                return next(at, to);
            }
            int[] label = label(to);
            int root = label[1];
            if (!below(root, at, label[2])) {
                return parent(root, at);
            }
            int heavy = heavy(root, at);
            if (heavy != -1 && below(root, heavy, label[2])) {
                return heavy;
            }
            return ports.get(at).get(label[4] >> 4 * lights(root, at).size() & 15);
        }
    }
}
