import java.util.Arrays;

/**
 * Finds ways in a network with small tables: landmarks that each node has near it, rows for
 * landmarks and for what lies nearer to a node than to its own landmark, labels that tell the way
 * down a tree; packets go hop by hop by label and table alone, and no way is more than three times
 * as long as need be.
 */
public final class LabelRouter {
    /** There is none. */
    public static final int NONE = -1;

    private static final int MOST_NODES = 40;
    private static final int PORTS = 16;
    private static final int MOST_WEIGHT = 1000;
    private static final int MOST_BUCKET = 40;

    private static final int WORDS = 5;
    private static final int WORD_NUMBER = 0;
    private static final int WORD_OWN = 1;
    private static final int WORD_PLACE = 2;
    private static final int WORD_LIGHTS = 3;
    private static final int WORD_PORTS = 4;
    private static final int PORT_BITS = 4;

    private static final int TABLE_WHATS = 3;
    private static final int TREE_WHATS = 4;
    private static final int WALK_WHATS = 3;

    private final Network network;
    private final Scheme scheme;
    private final Packets packets;
    private final int[] nowFar;
    private final int[] nowOrder;
    private boolean built;

    public LabelRouter() {
        network = new Network();
        scheme = new Scheme();
        packets = new Packets();
        nowFar = new int[MOST_NODES];
        nowOrder = new int[MOST_NODES];
        built = false;
    }

    /** There are n nodes, without edges, not built, no packets. */
    public void nodes(int n) throws IllegalArgumentException {
        if (n < 1 || n > MOST_NODES) {
            throw new IllegalArgumentException("n is not 1 .. 40");
        }
        network.clear(n);
        packets.clear();
        built = false;
    }

    /** Makes an edge, or gives it another weight: its port at a. */
    public int edge(int a, int b, int weight)
            throws IndexOutOfBoundsException, IllegalArgumentException, IllegalStateException {
        needNode(a);
        needNode(b);
        if (a == b || weight < 1 || weight > MOST_WEIGHT) {
            throw new IllegalArgumentException("no edge can be so");
        }
        if (network.portTo(a, b) == NONE) {
            if (network.freePort(a) == NONE || network.freePort(b) == NONE) {
                throw new IllegalStateException("a node has no free port");
            }
            network.join(a, b);
        }
        network.setWeight(a, b, weight);
        return network.portTo(a, b);
    }

    /** Takes away an edge: its weight. */
    public int cut(int a, int b) throws IndexOutOfBoundsException, IllegalArgumentException {
        needNode(a);
        needNode(b);
        if (network.portTo(a, b) == NONE) {
            throw new IllegalArgumentException("there is no such edge");
        }
        int weight = network.weightTo(a, b);
        network.part(a, b);
        return weight;
    }

    /** The node behind a port, or NONE. */
    public int port(int node, int port) throws IndexOutOfBoundsException {
        needNode(node);
        needBelow(port, PORTS);
        return network.behindPort(node, port);
    }

    /** Builds landmarks, trees, tables and labels: how many landmarks there are. */
    public int build(int bucket) throws IllegalArgumentException, IllegalStateException {
        if (bucket < 1 || bucket > MOST_BUCKET) {
            throw new IllegalArgumentException("bucket is not 1 .. 40");
        }
        if (network.spread(0, nowFar, nowOrder) < network.size()) {
            throw new IllegalStateException("not all nodes are joined");
        }
        scheme.rebuild(network, bucket);
        packets.clear();
        built = true;
        return scheme.landmarks.howMany();
    }

    /** Landmark i, in rising order. */
    public int landmark(int i) throws IllegalStateException, IndexOutOfBoundsException {
        needBuilt();
        needBelow(i, scheme.landmarks.howMany());
        return scheme.landmarks.at(i);
    }

    /** How many rows a node's table has (0), how many nodes its cluster (1); its own landmark (2). */
    public int table(int node, int what) throws IllegalStateException, IndexOutOfBoundsException {
        needBuilt();
        needNode(node);
        needBelow(what, TABLE_WHATS);
        Landmarks landmarks = scheme.landmarks;
        switch (what) {
            case 0:
                return landmarks.howMany() + landmarks.clusterSize(node);
            case 1:
                return landmarks.clusterSize(node);
            default:
                return landmarks.ownOf(node);
        }
    }

    /** The port of a node's row for another one; NONE for itself. */
    public int row(int node, int to)
            throws IllegalStateException, IndexOutOfBoundsException, IllegalArgumentException {
        needBuilt();
        needNode(node);
        needNode(to);
        if (!scheme.landmarks.hasRow(node, to)) {
            throw new IllegalArgumentException("there is no such row");
        }
        return scheme.rowPort(node, to);
    }

    /** A word (0 .. 4) of a node's label. */
    public int label(int node, int word) throws IllegalStateException, IndexOutOfBoundsException {
        needBuilt();
        needNode(node);
        needBelow(word, WORDS);
        return scheme.labelOf(node)[word];
    }

    /** Of a node in a landmark's tree: its place (0), size (1), heavy child (2), parent (3). */
    public int tree(int landmark, int node, int what)
            throws IllegalStateException, IndexOutOfBoundsException, IllegalArgumentException {
        needBuilt();
        needNode(landmark);
        needNode(node);
        needBelow(what, TREE_WHATS);
        if (!scheme.landmarks.isLandmark(landmark)) {
            throw new IllegalArgumentException("no landmark has that number");
        }
        switch (what) {
            case 0:
                return scheme.forest.placeOf(landmark, node);
            case 1:
                return scheme.forest.sizeOf(landmark, node);
            case 2:
                return scheme.forest.heavyOf(landmark, node);
            default:
                return scheme.forest.parentOf(landmark, node);
        }
    }

    /** A packet at a node, with another one's label: its number. */
    public int send(int from, int to) throws IllegalStateException, IndexOutOfBoundsException {
        needBuilt();
        needNode(from);
        needNode(to);
        return packets.add(from, to);
    }

    /** A packet makes a HOP: where it is then. */
    public int hop(int packet) throws IllegalArgumentException {
        needPacket(packet);
        int at = packets.placeOf(packet);
        int next = scheme.onward(at, packets.aimOf(packet));
        packets.move(packet, next, scheme.hopWeight(at, next));
        return next;
    }

    /** What a packet's hops weighed together. */
    public int weight(int packet) throws IllegalArgumentException {
        needPacket(packet);
        return packets.weighed(packet);
    }

    /** The least weight of all ways as the edges are now; NONE when there is no way. */
    public int distance(int a, int b) throws IndexOutOfBoundsException {
        needNode(a);
        needNode(b);
        network.spread(a, nowFar, nowOrder);
        return nowFar[b];
    }

    /** Of a packet's way from a to b: its weight (0), its hops (1), thousandths of d(a, b) (2). */
    public int walk(int a, int b, int what)
            throws IllegalStateException, IndexOutOfBoundsException {
        needBuilt();
        needNode(a);
        needNode(b);
        needBelow(what, WALK_WHATS);
        switch (what) {
            case 0:
                return scheme.wayTotal(a, b, true);
            case 1:
                return scheme.wayTotal(a, b, false);
            default:
                return scheme.wayStretch(a, b);
        }
    }

    private void needNode(int node) {
        needBelow(node, network.size());
    }

    private void needBelow(int index, int bound) {
        if (index < 0 || index >= bound) {
            throw new IndexOutOfBoundsException("there is none with that number");
        }
    }

    private void needBuilt() {
        if (!built) {
            throw new IllegalStateException("nothing is built");
        }
    }

    private void needPacket(int packet) {
        if (!packets.has(packet)) {
            throw new IllegalArgumentException("there is no such packet");
        }
    }

    /** Nodes with what is behind each of their ports. */
    private static final class Network {
        private final int[][] behind = new int[MOST_NODES][PORTS];
        private final int[][] weights = new int[MOST_NODES][PORTS];
        private int count;

        Network() {
            clear(1);
        }

        void clear(int n) {
            count = n;
            for (int node = 0; node < MOST_NODES; node++) {
                Arrays.fill(behind[node], NONE);
                Arrays.fill(weights[node], 0);
            }
        }

        void copyFrom(Network other) {
            count = other.count;
            for (int node = 0; node < MOST_NODES; node++) {
                System.arraycopy(other.behind[node], 0, behind[node], 0, PORTS);
                System.arraycopy(other.weights[node], 0, weights[node], 0, PORTS);
            }
        }

        int size() {
            return count;
        }

        int behindPort(int node, int port) {
            return behind[node][port];
        }

        int portWeight(int node, int port) {
            return weights[node][port];
        }

        int portTo(int node, int other) {
            for (int port = 0; port < PORTS; port++) {
                if (behind[node][port] == other) {
                    return port;
                }
            }
            return NONE;
        }

        /** An empty port has NONE behind it, so that the first one is the lowest free port. */
        int freePort(int node) {
            return portTo(node, NONE);
        }

        int weightTo(int a, int b) {
            int port = portTo(a, b);
            return port == NONE ? 0 : weights[a][port];
        }

        void join(int a, int b) {
            connect(a, freePort(a), b);
            connect(b, freePort(b), a);
        }

        void part(int a, int b) {
            connect(a, portTo(a, b), NONE);
            connect(b, portTo(b, a), NONE);
        }

        private void connect(int node, int port, int other) {
            if (port != NONE) {
                behind[node][port] = other;
                weights[node][port] = 0;
            }
        }

        void setWeight(int a, int b, int value) {
            weigh(a, portTo(a, b), value);
            weigh(b, portTo(b, a), value);
        }

        private void weigh(int node, int port, int value) {
            if (port != NONE) {
                weights[node][port] = value;
            }
        }

        /**
         * Fills in how far each node is (NONE: no way), and the nodes that are reached, the nearest
         * first: how many these are. No weight is 0, so all nodes of one distance are known before
         * the first of them is taken, and of those as near the lower numbers come first.
         */
        int spread(int from, int[] far, int[] order) {
            Arrays.fill(far, NONE);
            far[from] = 0;
            long taken = 0;
            for (int reached = 0; reached < count; reached++) {
                int node = nearestLeft(far, taken);
                if (node == NONE) {
                    return reached;
                }
                order[reached] = node;
                taken |= 1L << node;
                reachFrom(node, far);
            }
            return count;
        }

        private int nearestLeft(int[] far, long taken) {
            int best = NONE;
            for (int node = 0; node < count; node++) {
                boolean open = far[node] != NONE && (taken >> node & 1) == 0;
                if (open && (best == NONE || far[node] < far[best])) {
                    best = node;
                }
            }
            return best;
        }

        private void reachFrom(int node, int[] far) {
            for (int port = 0; port < PORTS; port++) {
                int other = behind[node][port];
                if (other != NONE) {
                    int way = far[node] + weights[node][port];
                    if (far[other] == NONE || way < far[other]) {
                        far[other] = way;
                    }
                }
            }
        }
    }

    /** The least weights between all nodes of a network that is joined. */
    private static final class Ways {
        private final Network network;
        private final int[][] far = new int[MOST_NODES][MOST_NODES];
        private final int[][] order = new int[MOST_NODES][MOST_NODES];

        Ways(Network network) {
            this.network = network;
        }

        void measure() {
            for (int node = 0; node < network.size(); node++) {
                network.spread(node, far[node], order[node]);
            }
        }

        int far(int a, int b) {
            return far[a][b];
        }

        /** The nodes seen from one, the nearest first, of those as near the lowest first. */
        int nearest(int node, int i) {
            return order[node][i];
        }

        /** The next node from one towards another; NONE when they are the same. */
        int next(int from, int to) {
            int best = NONE;
            for (int port = 0; port < PORTS; port++) {
                int other = network.behindPort(from, port);
                if (other != NONE && (best == NONE || other < best)
                        && network.portWeight(from, port) + far[other][to] == far[from][to]) {
                    best = other;
                }
            }
            return best;
        }
    }

    /** Which nodes are landmarks, each node's own one, and the clusters; sets of nodes are bits. */
    private static final class Landmarks {
        private final Network network;
        private final Ways ways;
        private final long[] balls = new long[MOST_NODES];
        private final long[] clusters = new long[MOST_NODES];
        private final int[] own = new int[MOST_NODES];
        private final int[] inBalls = new int[MOST_NODES];
        private long chosen;

        Landmarks(Network network, Ways ways) {
            this.network = network;
            this.ways = ways;
        }

        void choose(int bucket) {
            chosen = 0;
            fillBalls(bucket);
            chooseFirst();
            chooseMore();
        }

        int howMany() {
            return Long.bitCount(chosen);
        }

        /** Landmark i in rising order; NONE when there are not so many. */
        int at(int i) {
            int before = 0;
            for (int node = 0; node < network.size(); node++) {
                if (isLandmark(node)) {
                    if (before == i) {
                        return node;
                    }
                    before++;
                }
            }
            return NONE;
        }

        boolean isLandmark(int node) {
            return has(chosen, node);
        }

        int ownOf(int node) {
            return own[node];
        }

        int clusterSize(int node) {
            return Long.bitCount(clusters[node]);
        }

        boolean hasRow(int node, int to) {
            return isLandmark(to) || has(clusters[node], to);
        }

        private static boolean has(long set, int node) {
            return (set >> node & 1) != 0;
        }

        private void fillBalls(int bucket) {
            int size = Math.min(bucket, network.size());
            for (int node = 0; node < network.size(); node++) {
                balls[node] = 0;
                for (int i = 0; i < size; i++) {
                    balls[node] |= 1L << ways.nearest(node, i);
                }
            }
        }

        private void chooseFirst() {
            for (int round = 0; round < network.size(); round++) {
                int node = mostWanted();
                if (node == NONE) {
                    return;
                }
                chosen |= 1L << node;
            }
        }

        /** The lowest node that is in the most balls without a landmark; NONE: no such ball. */
        private int mostWanted() {
            countInBalls();
            int best = NONE;
            int most = 0;
            for (int node = 0; node < network.size(); node++) {
                if (inBalls[node] > most) {
                    most = inBalls[node];
                    best = node;
                }
            }
            return best;
        }

        private void countInBalls() {
            Arrays.fill(inBalls, 0);
            for (int center = 0; center < network.size(); center++) {
                if ((balls[center] & chosen) == 0) {
                    for (int node = 0; node < network.size(); node++) {
                        inBalls[node] += has(balls[center], node) ? 1 : 0;
                    }
                }
            }
        }

        private void chooseMore() {
            int first = Math.max(1, howMany());
            int most = (4 * network.size() + first - 1) / first;
            // A landmark's own cluster is empty, so each round takes a node that was none before.
            for (int round = 0; round < network.size(); round++) {
                findOwn();
                fillClusters();
                int node = lowestCrowded(most);
                if (node == NONE) {
                    return;
                }
                chosen |= 1L << node;
            }
        }

        private int lowestCrowded(int most) {
            for (int node = 0; node < network.size(); node++) {
                if (clusterSize(node) > most) {
                    return node;
                }
            }
            return NONE;
        }

        private void findOwn() {
            for (int node = 0; node < network.size(); node++) {
                own[node] = nearestLandmark(node);
            }
        }

        private int nearestLandmark(int node) {
            for (int i = 0; i < network.size(); i++) {
                int other = ways.nearest(node, i);
                if (has(chosen, other)) {
                    return other;
                }
            }
            return node;
        }

        private void fillClusters() {
            for (int node = 0; node < network.size(); node++) {
                clusters[node] = 0;
                for (int other = 0; other < network.size(); other++) {
                    if (ways.far(node, other) < ways.far(other, own[other])) {
                        clusters[node] |= 1L << other;
                    }
                }
            }
        }
    }

    /** The tree of each landmark; rows are kept by the landmark's number. */
    private static final class Forest {
        private final Network network;
        private final Ways ways;
        private final int[][] places = new int[MOST_NODES][MOST_NODES];
        private final int[][] sizes = new int[MOST_NODES][MOST_NODES];
        private final int[][] heavies = new int[MOST_NODES][MOST_NODES];
        private final int[][] lights = new int[MOST_NODES][MOST_NODES];
        private final int[] parents = new int[MOST_NODES];

        Forest(Network network, Ways ways) {
            this.network = network;
            this.ways = ways;
        }

        void grow(int root) {
            findParents(root);
            addSizes(root);
            findHeavies(root);
            givePlaces(root);
        }

        int placeOf(int root, int node) {
            return places[root][node];
        }

        int sizeOf(int root, int node) {
            return sizes[root][node];
        }

        int heavyOf(int root, int node) {
            return heavies[root][node];
        }

        int parentOf(int root, int node) {
            return ways.next(node, root);
        }

        /** How many light nodes there are on the way from the root down to a node, itself too. */
        int lightsAbove(int root, int node) {
            return lights[root][node];
        }

        /** Is a place one at or below a node? */
        boolean holds(int root, int node, int place) {
            int first = places[root][node];
            return place >= first && place < first + sizes[root][node];
        }

        private void findParents(int root) {
            for (int node = 0; node < network.size(); node++) {
                parents[node] = parentOf(root, node);
            }
        }

        /** A parent is nearer to the root than its child: from the far end, sizes are whole. */
        private void addSizes(int root) {
            int[] size = sizes[root];
            Arrays.fill(size, 1);
            for (int i = network.size() - 1; i > 0; i--) {
                int node = ways.nearest(root, i);
                if (parents[node] != NONE) {
                    size[parents[node]] += size[node];
                }
            }
        }

        private void findHeavies(int root) {
            int[] size = sizes[root];
            int[] heavy = heavies[root];
            Arrays.fill(heavy, NONE);
            for (int node = 0; node < network.size(); node++) {
                int parent = parents[node];
                if (parent != NONE
                        && (heavy[parent] == NONE || size[node] > size[heavy[parent]])) {
                    heavy[parent] = node;
                }
            }
        }

        private void givePlaces(int root) {
            places[root][root] = 0;
            lights[root][root] = 0;
            for (int i = 0; i < network.size(); i++) {
                placeChildren(root, ways.nearest(root, i));
            }
        }

        private void placeChildren(int root, int node) {
            int heavy = heavies[root][node];
            if (heavy == NONE) {
                return;
            }
            int place = places[root][node] + 1;
            places[root][heavy] = place;
            lights[root][heavy] = lights[root][node];
            place += sizes[root][heavy];
            for (int child = 0; child < network.size(); child++) {
                if (parents[child] == node && child != heavy) {
                    places[root][child] = place;
                    lights[root][child] = lights[root][node] + 1;
                    place += sizes[root][child];
                }
            }
        }
    }

    /** What is built: it keeps a network of its own, for edges may change afterwards. */
    private static final class Scheme {
        /** Up a tree, down it, and straight on in clusters: each at most once past each node. */
        private static final int MOST_HOPS = 3 * MOST_NODES;
        private static final int THOUSAND = 1000;

        private final Network network = new Network();
        private final Ways ways = new Ways(network);
        private final Landmarks landmarks = new Landmarks(network, ways);
        private final Forest forest = new Forest(network, ways);
        private final int[][] labels = new int[MOST_NODES][WORDS];

        void rebuild(Network now, int bucket) {
            network.copyFrom(now);
            ways.measure();
            landmarks.choose(bucket);
            for (int node = 0; node < network.size(); node++) {
                if (landmarks.isLandmark(node)) {
                    forest.grow(node);
                }
            }
            for (int node = 0; node < network.size(); node++) {
                writeLabel(node, landmarks.ownOf(node));
            }
        }

        int[] labelOf(int node) {
            return labels[node];
        }

        int rowPort(int node, int to) {
            int next = ways.next(node, to);
            return next == NONE ? NONE : network.portTo(node, next);
        }

        private void writeLabel(int node, int root) {
            int[] words = labels[node];
            words[WORD_NUMBER] = node;
            words[WORD_OWN] = root;
            words[WORD_PLACE] = forest.placeOf(root, node);
            words[WORD_LIGHTS] = forest.lightsAbove(root, node);
            words[WORD_PORTS] = lightPorts(node, root);
        }

        /** Climbing, the topmost port is met last, and so comes to stand in the lowest bits. */
        private int lightPorts(int node, int root) {
            int word = 0;
            int child = node;
            for (int level = 0; level < network.size() && child != root; level++) {
                int parent = forest.parentOf(root, child);
                if (parent == NONE) {
                    return word;
                }
                if (forest.heavyOf(root, parent) != child) {
                    word = word << PORT_BITS | network.portTo(parent, child);
                }
                child = parent;
            }
            return word;
        }

        /** Where a packet at a node, with the label of another, is after a hop. */
        int onward(int at, int aim) {
            if (at == aim) {
                return at;
            }
            int next = landmarks.hasRow(at, aim) ? ways.next(at, aim) : alongTree(at, labels[aim]);
            return next == NONE ? at : next;
        }

        private int alongTree(int at, int[] words) {
            int root = words[WORD_OWN];
            int place = words[WORD_PLACE];
            if (!forest.holds(root, at, place)) {
                return ways.next(at, root);
            }
            int heavy = forest.heavyOf(root, at);
            if (heavy != NONE && forest.holds(root, heavy, place)) {
                return heavy;
            }
            int shift = PORT_BITS * forest.lightsAbove(root, at);
            return network.behindPort(at, words[WORD_PORTS] >> shift & PORTS - 1);
        }

        int hopWeight(int from, int to) {
            return from == to ? 0 : network.weightTo(from, to);
        }

        /** What the hops of a packet weigh until it is there, or how many they are. */
        int wayTotal(int from, int aim, boolean weighed) {
            int total = 0;
            int at = from;
            for (int hops = 0; hops < MOST_HOPS && at != aim; hops++) {
                int next = onward(at, aim);
                total += weighed ? hopWeight(at, next) : 1;
                at = next;
            }
            return total;
        }

        /** Only a node is at no distance from itself. */
        int wayStretch(int from, int aim) {
            int least = ways.far(from, aim);
            if (least <= 0) {
                return THOUSAND;
            }
            return (THOUSAND * wayTotal(from, aim, true) + least - 1) / least;
        }
    }

    /** The 16 latest packets; the number of each is its turn. */
    private static final class Packets {
        private static final int MOST = 16;

        private final int[] at = new int[MOST];
        private final int[] aims = new int[MOST];
        private final int[] sums = new int[MOST];
        private int next;
        private int count;

        void clear() {
            next = 0;
            count = 0;
        }

        boolean has(int packet) {
            return packet >= 0 && packet < count;
        }

        int add(int from, int to) {
            int packet = next;
            at[packet] = from;
            aims[packet] = to;
            sums[packet] = 0;
            next = (next + 1) % MOST;
            count = Math.min(count + 1, MOST);
            return packet;
        }

        int placeOf(int packet) {
            return at[packet];
        }

        int aimOf(int packet) {
            return aims[packet];
        }

        void move(int packet, int to, int weight) {
            at[packet] = to;
            sums[packet] += weight;
        }

        int weighed(int packet) {
            return sums[packet];
        }
    }
}
