/**
 * Rounds from a house through places. The document ../shared/DOC.md says what each call promises;
 * words in capitals are its terms.
 *
 * <p>A set of NODES besides the HOUSE is held as bits, NODE v as bit v - 1. All tables are made once, with the
 * object, and used again by every call.
 */
public final class CircuitWays {
    public static final int NONE = -1000000, BAD = -2000000, FULL = -3000000;

    /** Stands where there is no COST. Far above every true sum, so that it is never the lesser one. */
    private static final int NO = 1000000000;

    private static final int NODES = 9;
    private static final int SETS = 256;
    private static final int ROW_LENGTH = 20;

    private final Net net;
    private final Shares shares;
    private final Tails tails;
    private final FirstPlan firstPlan;
    private final Tree tree;
    private final Pairs pairs;
    private final Circles circles;
    private final Ways ways;
    private final Row row;

    public CircuitWays() {
        net = new Net();
        Paths paths = new Paths(net);
        shares = new Shares(net, paths);
        tails = new Tails(net, paths, shares);
        firstPlan = new FirstPlan(net, shares, tails);
        tree = new Tree(net);
        pairs = new Pairs(net);
        circles = new Circles(net);
        ways = new Ways(net);
        row = new Row(net);
    }

    // ---- the net

    public int node(int load) {
        if (load < 0 || load > 100) {
            return BAD;
        }
        if (net.size >= NODES) {
            return FULL;
        }
        return net.addNode(load);
    }

    public int arc(int a, int b, int cost) {
        if (!net.areTwo(a, b) || cost < -1000 || cost > 1000) {
            return BAD;
        }
        return orNone(net.changeCost(a, b, cost));
    }

    public int lose(int a, int b) {
        if (!net.areTwo(a, b)) {
            return BAD;
        }
        return orNone(net.changeCost(a, b, NO));
    }

    public int price(int node, int p) {
        if (!net.isPlace(node) || p < -1 || p > 2000) {
            return BAD;
        }
        return net.changePrice(node, p);
    }

    public int ahead(int a, int b, boolean on) {
        if (!net.areTwo(a, b) || a == 0 || b == 0) {
            return BAD;
        }
        return net.changeEarlier(a, b, on);
    }

    public int rule(int what, int v) {
        switch (what) {
            case 0:
                return v < 1 || v > 8 ? BAD : net.changeMost(v);
            case 1:
                return v < 0 || v > 1000 ? BAD : net.changeRoom(v);
            case 2:
                return v < 0 || v > 1 ? BAD : net.changeOpen(v);
            default:
                return BAD;
        }
    }

    // ---- plans

    public int best() {
        shares.refresh();
        return orNone(shares.leastCost());
    }

    public int many() {
        shares.refresh();
        return shares.leastWays();
    }

    public int first(int i) {
        shares.refresh();
        if (shares.leastCost() == NO) {
            return NONE;
        }
        firstPlan.refresh();
        if (i == -1) {
            return firstPlan.length;
        }
        return i < 0 || i >= firstPlan.length ? BAD : firstPlan.written[i];
    }

    public int with(int a, int b) {
        if (!net.areTwo(a, b)) {
            return BAD;
        }
        shares.refresh();
        tails.fill(net.allPlaces(), net.most);
        return orNone(tails.leastThrough(a, b, -NO));
    }

    public int without(int node) {
        if (!net.isPlace(node)) {
            return BAD;
        }
        shares.refresh();
        return orNone(shares.leastLeavingOut(node));
    }

    public int filter(int most) {
        shares.refresh();
        tails.fill(net.allPlaces(), net.most);
        return tails.dropArcsAbove(most);
    }

    // ---- bounds

    public int weight(int node, int w) {
        if (!net.isNode(node) || w < -1000 || w > 1000) {
            return BAD;
        }
        return tree.changeWeight(node, w);
    }

    public int bound() {
        return tree.grow() ? tree.lowerBound() : NONE;
    }

    public int edge(int k, int what) {
        if (!tree.grow()) {
            return NONE;
        }
        if (k < 0 || k >= tree.chosen || what < 0 || what > 1) {
            return BAD;
        }
        return what == 0 ? tree.lesser[k] : tree.other[k];
    }

    public int degree(int node) {
        if (!net.isNode(node)) {
            return BAD;
        }
        return tree.grow() ? tree.edgesAt(node) : NONE;
    }

    public int pairing() {
        return orNone(pairs.leastCost());
    }

    // ---- circles, ways

    public int next(int a, int b) {
        if (!net.isNode(a) || a == b || (b != -1 && !net.isNode(b))) {
            return BAD;
        }
        return circles.changeFollower(a, b);
    }

    public int circle(int k) {
        int found = circles.find();
        if (k == -1) {
            return found;
        }
        return k < 0 || k >= found ? BAD : circles.members[k];
    }

    public int nearest(int node) {
        if (!net.isNode(node)) {
            return BAD;
        }
        return ways.nearestLeading(node);
    }

    // ---- a row

    public int put(int v) {
        if (!net.isNode(v)) {
            return BAD;
        }
        return row.size >= ROW_LENGTH ? FULL : row.append(v);
    }

    public int keep(int n) {
        if (n < 0 || n > row.size) {
            return BAD;
        }
        return row.cut(n);
    }

    public int check() {
        return orNone(row.cost());
    }

    public int insert(int node) {
        if (!net.isPlace(node)) {
            return BAD;
        }
        return row.size >= ROW_LENGTH ? FULL : row.cheapestPlace(node);
    }

    public int count(int what) {
        switch (what) {
            case 0:
                return net.size;
            case 1:
                return net.arcs();
            case 2:
                return net.pairsAhead();
            case 3:
                return net.most;
            case 4:
                return net.room;
            case 5:
                return net.open;
            case 6:
                return row.size;
            default:
                return BAD;
        }
    }

    private static int orNone(int cost) {
        return cost == NO ? NONE : cost;
    }

    private static int sum(int a, int b) {
        return a == NO || b == NO ? NO : a + b;
    }

    private static int bit(int place) {
        return 1 << (place - 1);
    }

    /** The NODES, the ARCS and the rules; others see by the count of changes whether what they know is old. */
    private static final class Net {
        final int[] loads = new int[NODES];
        final int[] costs = new int[NODES * NODES];
        final int[] prices = new int[NODES];
        /** For each NODE the set of those that are AHEAD of it. */
        final int[] earlier = new int[NODES];
        int size = 1;
        int most = 1;
        int room = 1000;
        int open = 0;
        int changes = 0;

        Net() {
            for (int i = 0; i < costs.length; i++) {
                costs[i] = NO;
            }
            for (int i = 0; i < prices.length; i++) {
                prices[i] = -1;
            }
        }

        boolean isNode(int v) {
            return v >= 0 && v < size;
        }

        boolean isPlace(int v) {
            return v > 0 && v < size;
        }

        boolean areTwo(int a, int b) {
            return isNode(a) && isNode(b) && a != b;
        }

        int allPlaces() {
            return (1 << (size - 1)) - 1;
        }

        int addNode(int load) {
            int v = size;
            loads[v] = load;
            size++;
            changes++;
            return v;
        }

        int changeCost(int a, int b, int cost) {
            int was = costs[a * NODES + b];
            costs[a * NODES + b] = cost;
            if (cost != was) {
                changes++;
            }
            return was;
        }

        int changePrice(int v, int p) {
            int was = prices[v];
            prices[v] = p;
            changes++;
            return was;
        }

        int changeEarlier(int a, int b, boolean on) {
            int was = (earlier[b] & bit(a)) == 0 ? 0 : 1;
            earlier[b] = on ? earlier[b] | bit(a) : earlier[b] & ~bit(a);
            changes++;
            return was;
        }

        int changeMost(int v) {
            int was = most;
            most = v;
            changes++;
            return was;
        }

        int changeRoom(int v) {
            int was = room;
            room = v;
            changes++;
            return was;
        }

        int changeOpen(int v) {
            int was = open;
            open = v;
            changes++;
            return was;
        }

        int arcs() {
            int found = 0;
            for (int i = 0; i < costs.length; i++) {
                if (costs[i] != NO) {
                    found++;
                }
            }
            return found;
        }

        int pairsAhead() {
            int found = 0;
            for (int v = 1; v < size; v++) {
                found += Integer.bitCount(earlier[v]);
            }
            return found;
        }

        /** What it costs to end a ROUND behind a NODE. */
        int costBack(int last) {
            return open == 1 ? 0 : costs[last * NODES];
        }

        /** What it costs to leave out a set of NODES. */
        int costOut(int set) {
            int cost = 0;
            for (int v = 1; v < size; v++) {
                if ((set & bit(v)) != 0) {
                    cost = sum(cost, prices[v] < 0 ? NO : prices[v]);
                }
            }
            return cost;
        }
    }

    /**
     * Of each set of NODES the least COST of a ROUND of just these, and in how many ways; for that, of each set
     * and each of its NODES the same of a beginning of a ROUND that ends there. The beginning without a NODE
     * stands at set 0, NODE 0.
     */
    private static final class Paths {
        private final Net net;
        private final int[] setLoad = new int[SETS];
        /** Of each set the NODES that may come behind it in a ROUND, if there is an ARC. */
        final int[] followers = new int[SETS];
        final int[] pathCost = new int[SETS * NODES];
        private final int[] pathWays = new int[SETS * NODES];
        final int[] roundCost = new int[SETS];
        final int[] roundWays = new int[SETS];

        Paths(Net net) {
            this.net = net;
        }

        void compute() {
            addLoads();
            clearPaths();
            int all = net.allPlaces();
            for (int set = 0; set <= all; set++) {
                followers[set] = followersOf(set);
                for (int last = 0; last < net.size; last++) {
                    if (pathCost[set * NODES + last] != NO) {
                        extend(set, last);
                    }
                }
            }
            for (int set = 1; set <= all; set++) {
                closeRound(set);
            }
        }

        private int followersOf(int set) {
            int found = 0;
            for (int v = 1; v < net.size; v++) {
                boolean fits = setLoad[set] + net.loads[v] <= net.room;
                if (fits && (set & bit(v)) == 0 && (net.earlier[v] & ~set) == 0) {
                    found |= bit(v);
                }
            }
            return found;
        }

        private void addLoads() {
            for (int v = 1; v < net.size; v++) {
                for (int set = 0; set < bit(v); set++) {
                    setLoad[set | bit(v)] = setLoad[set] + net.loads[v];
                }
            }
        }

        private void clearPaths() {
            int used = (net.allPlaces() + 1) * NODES;
            for (int i = 0; i < used; i++) {
                pathCost[i] = NO;
                pathWays[i] = 0;
            }
            pathCost[0] = 0;
            pathWays[0] = 1;
        }

        private void extend(int set, int last) {
            int from = set * NODES + last;
            for (int v = 1; v < net.size; v++) {
                int arc = net.costs[last * NODES + v];
                if (arc == NO || (followers[set] & bit(v)) == 0) {
                    continue;
                }
                int to = (set | bit(v)) * NODES + v;
                int cost = pathCost[from] + arc;
                if (cost < pathCost[to]) {
                    pathCost[to] = cost;
                    pathWays[to] = pathWays[from];
                } else if (cost == pathCost[to]) {
                    pathWays[to] += pathWays[from];
                }
            }
        }

        private void closeRound(int set) {
            int least = NO;
            int count = 0;
            for (int last = 1; last < net.size; last++) {
                int cost = sum(pathCost[set * NODES + last], net.costBack(last));
                if (cost < least) {
                    least = cost;
                    count = pathWays[set * NODES + last];
                } else if (cost == least && cost != NO) {
                    count += pathWays[set * NODES + last];
                }
            }
            roundCost[set] = least;
            roundWays[set] = count;
        }
    }

    /**
     * For each number of ROUNDS and each set of NODES: the least COST of bringing these NODES into at most so
     * many ROUNDS or leaving them out, and in how many ways.
     */
    private static final class Shares {
        private final Net net;
        private final Paths paths;
        final int[] cost = new int[SETS * NODES];
        private final int[] waysOf = new int[SETS * NODES];
        private int least = NO;
        private int leastCount = 0;
        private int seen = -1;

        Shares(Net net, Paths paths) {
            this.net = net;
            this.paths = paths;
        }

        void refresh() {
            if (seen == net.changes) {
                return;
            }
            seen = net.changes;
            paths.compute();
            int all = net.allPlaces();
            for (int set = 0; set <= all; set++) {
                int out = net.costOut(set);
                cost[set] = out;
                waysOf[set] = out == NO ? 0 : 1;
            }
            for (int rounds = 1; rounds <= net.most; rounds++) {
                cost[rounds * SETS] = 0;
                waysOf[rounds * SETS] = 1;
                for (int set = 1; set <= all; set++) {
                    if (Integer.bitCount(set) < rounds) {
                        copyShare(rounds, set);
                    } else {
                        share(rounds, set);
                    }
                }
            }
        }

        int leastCost() {
            return cost[net.most * SETS + net.allPlaces()];
        }

        int leastWays() {
            return waysOf[net.most * SETS + net.allPlaces()];
        }

        int leastLeavingOut(int v) {
            return sum(cost[bit(v)], cost[net.most * SETS + (net.allPlaces() & ~bit(v))]);
        }

        /** The least NODE of the set is looked at alone, so that no PLAN is counted twice. */
        private void share(int rounds, int set) {
            int low = set & -set;
            int others = set & ~low;
            least = sum(cost[low], cost[rounds * SETS + others]);
            leastCount = least == NO ? 0 : waysOf[rounds * SETS + others];
            offer(low, (rounds - 1) * SETS + others);
            // 'part' becomes less with each step: it goes down through all parts of 'others' but the empty one
            for (int part = others; part > 0; part = (part - 1) & others) {
                offer(part | low, (rounds - 1) * SETS + (others & ~part));
            }
            cost[rounds * SETS + set] = least;
            waysOf[rounds * SETS + set] = leastCount;
        }

        /** A ROUND more than there are NODES changes nothing. */
        private void copyShare(int rounds, int set) {
            cost[rounds * SETS + set] = cost[(rounds - 1) * SETS + set];
            waysOf[rounds * SETS + set] = waysOf[(rounds - 1) * SETS + set];
        }

        private void offer(int round, int rest) {
            int together = sum(paths.roundCost[round], cost[rest]);
            if (together == NO || together > least) {
                return;
            }
            int count = paths.roundWays[round] * waysOf[rest];
            leastCount = together < least ? count : leastCount + count;
            least = together;
        }
    }

    /**
     * For the beginning of a ROUND of free NODES: the least COST of all that comes behind it, the other free
     * NODES with it. Filled only behind Shares.refresh.
     */
    private static final class Tails {
        private final Net net;
        private final Paths paths;
        private final Shares shares;
        private final int[] cost = new int[SETS * NODES];
        private final boolean[] above = new boolean[NODES * NODES];
        private int seen = -1;
        private int free = 0;
        private int rounds = 0;

        Tails(Net net, Paths paths, Shares shares) {
            this.net = net;
            this.paths = paths;
            this.shares = shares;
        }

        /** The ROUND at hand is one of the ROUNDS that are left, so there is at least one. */
        void fill(int freePlaces, int roundsLeft) {
            if (seen == net.changes && free == freePlaces && rounds == roundsLeft) {
                return;
            }
            seen = net.changes;
            free = freePlaces;
            rounds = roundsLeft;
            // 'set' becomes less with each step, so all that a set leads to is known before it
            for (int set = free; set > 0; set = (set - 1) & free) {
                for (int last = 1; last < net.size; last++) {
                    if ((set & bit(last)) != 0) {
                        cost[set * NODES + last] = leastBehind(set, last);
                    }
                }
            }
        }

        /** The COST of going on to NODE v and of all behind it. */
        int costOver(int set, int last, int v) {
            if ((paths.followers[set] & free & bit(v)) == 0) {
                return NO;
            }
            return sum(net.costs[last * NODES + v], cost[(set | bit(v)) * NODES + v]);
        }

        /** The COST of ending the ROUND here and of all behind it. */
        int costClosing(int set, int last) {
            return sum(net.costBack(last), shares.cost[(rounds - 1) * SETS + (free & ~set)]);
        }

        private int leastBehind(int set, int last) {
            int least = costClosing(set, last);
            int followers = paths.followers[set] & free;
            for (int v = 1; v < net.size; v++) {
                if ((followers & bit(v)) != 0) {
                    least = Math.min(least, costOver(set, last, v));
                }
            }
            return least;
        }

        /** The least COST of a PLAN with an ARC, or the first that is found to be no more than enough. */
        int leastThrough(int a, int b, int enough) {
            if (net.costs[a * NODES + b] == NO || (b == 0 && net.open == 1)) {
                return NO;
            }
            int least = NO;
            int all = net.allPlaces();
            for (int set = 0; set <= all && (least > enough || least == NO); set++) {
                int path = paths.pathCost[set * NODES + a];
                if (path != NO) {
                    int behind = b == 0 ? costClosing(set, a) : costOver(set, a, b);
                    least = Math.min(least, sum(path, behind));
                }
            }
            return least;
        }

        int dropArcsAbove(int most) {
            for (int a = 0; a < net.size; a++) {
                for (int b = 0; b < net.size; b++) {
                    int least = leastThrough(a, b, most);
                    above[a * NODES + b] = least == NO || least > most;
                }
            }
            int dropped = 0;
            for (int a = 0; a < net.size; a++) {
                for (int b = 0; b < net.size; b++) {
                    if (above[a * NODES + b] && net.changeCost(a, b, NO) != NO) {
                        dropped++;
                    }
                }
            }
            return dropped;
        }
    }

    /**
     * The first of THE BEST PLANS, WRITTEN. Of all orders in which the ROUNDS of a PLAN could be written, that by
     * their first NODES comes first in ORDER; so it is enough to take the first number that can be, each time.
     */
    private static final class FirstPlan {
        private final Net net;
        private final Shares shares;
        private final Tails tails;
        final int[] written = new int[2 * NODES];
        int length = 0;
        private int seen = -1;
        private int due = 0;
        private int free = 0;

        FirstPlan(Net net, Shares shares, Tails tails) {
            this.net = net;
            this.shares = shares;
            this.tails = tails;
        }

        /** Asked for only when there is a PLAN, and behind Shares.refresh. */
        void refresh() {
            if (seen == net.changes) {
                return;
            }
            seen = net.changes;
            length = 0;
            due = shares.leastCost();
            free = net.allPlaces();
            for (int rounds = net.most; rounds > 0 && shares.cost[free] != due; rounds--) {
                if (length > 0) {
                    write(0);
                }
                tails.fill(free, rounds);
                writeRound();
            }
        }

        private void writeRound() {
            int set = 0;
            int last = 0;
            for (int i = 0; i < NODES; i++) {
                if (set != 0 && tails.costClosing(set, last) == due) {
                    break;
                }
                int v = followerDue(set, last);
                if (v == 0) {
                    break;
                }
                write(v);
                due -= net.costs[last * NODES + v];
                set |= bit(v);
                last = v;
            }
            due -= net.costBack(last);
            free &= ~set;
        }

        private int followerDue(int set, int last) {
            for (int v = 1; v < net.size; v++) {
                if (tails.costOver(set, last, v) == due) {
                    return v;
                }
            }
            return 0;
        }

        private void write(int number) {
            if (length < written.length) {
                written[length] = number;
                length++;
            }
        }
    }

    /** THE TREE, with the WEIGHTS, which count nowhere else. */
    private static final class Tree {
        private final Net net;
        private final int[] weights = new int[NODES];
        private final int[] part = new int[NODES];
        final int[] lesser = new int[NODES];
        final int[] other = new int[NODES];
        int chosen = 0;
        private int cost = 0;

        Tree(Net net) {
            this.net = net;
        }

        int changeWeight(int v, int w) {
            int was = weights[v];
            weights[v] = w;
            return was;
        }

        /** Is there a TREE? If so, its EDGES stand in order. */
        boolean grow() {
            chosen = 0;
            cost = 0;
            if (net.size < 3) {
                return false;
            }
            for (int v = 0; v < net.size; v++) {
                part[v] = v;
            }
            for (int i = 2; i < net.size; i++) {
                if (!chooseJoining()) {
                    return false;
                }
            }
            return chooseAtHouse(0) && chooseAtHouse(other[chosen - 1]);
        }

        int lowerBound() {
            int weight = 0;
            for (int v = 0; v < net.size; v++) {
                weight += weights[v];
            }
            return cost - 2 * weight;
        }

        int edgesAt(int v) {
            int found = 0;
            for (int k = 0; k < chosen; k++) {
                if (lesser[k] == v || other[k] == v) {
                    found++;
                }
            }
            return found;
        }

        private int edgeCost(int a, int b) {
            int arc = Math.min(net.costs[a * NODES + b], net.costs[b * NODES + a]);
            return sum(arc, weights[a] + weights[b]);
        }

        private boolean chooseJoining() {
            int least = NO;
            int from = 0;
            int to = 0;
            for (int a = 1; a < net.size; a++) {
                for (int b = a + 1; b < net.size; b++) {
                    if (part[a] != part[b] && edgeCost(a, b) < least) {
                        least = edgeCost(a, b);
                        from = a;
                        to = b;
                    }
                }
            }
            return least != NO && choose(from, to);
        }

        private boolean chooseAtHouse(int taken) {
            int least = NO;
            int to = 0;
            for (int v = 1; v < net.size; v++) {
                if (v != taken && edgeCost(0, v) < least) {
                    least = edgeCost(0, v);
                    to = v;
                }
            }
            return least != NO && choose(0, to);
        }

        private boolean choose(int a, int b) {
            if (chosen >= NODES) {
                return false;
            }
            lesser[chosen] = a;
            other[chosen] = b;
            chosen++;
            cost += edgeCost(a, b);
            int old = part[b];
            for (int v = 0; v < net.size; v++) {
                if (part[v] == old) {
                    part[v] = part[a];
                }
            }
            return true;
        }
    }

    /** THE PAIRING: the first NODES, as many as a set has, each with an ARC to another NODE of the set. */
    private static final class Pairs {
        private final Net net;
        private final int[] cost = new int[2 * SETS];

        Pairs(Net net) {
            this.net = net;
        }

        int leastCost() {
            int all = (1 << net.size) - 1;
            cost[0] = 0;
            for (int set = 1; set <= all; set++) {
                int from = Integer.bitCount(set) - 1;
                int least = NO;
                for (int to = 0; to < net.size; to++) {
                    if ((set & (1 << to)) != 0) {
                        least = Math.min(least, sum(cost[set & ~(1 << to)], net.costs[from * NODES + to]));
                    }
                }
                cost[set] = least;
            }
            return cost[all];
        }
    }

    /** NEXT of each NODE, and the CIRCLES. */
    private static final class Circles {
        private final Net net;
        private final int[] follower = new int[NODES];
        final int[] members = new int[NODES];

        Circles(Net net) {
            this.net = net;
            for (int v = 0; v < NODES; v++) {
                follower[v] = -1;
            }
        }

        int changeFollower(int a, int b) {
            int was = follower[a];
            follower[a] = b;
            return was;
        }

        /** How many CIRCLES there are; they stand by their least NODES. */
        int find() {
            int found = 0;
            for (int v = 0; v < net.size; v++) {
                int bits = circleFrom(v);
                if (bits != 0) {
                    members[found] = bits;
                    found++;
                }
            }
            return found;
        }

        /** The CIRCLE of which a NODE is the least one, or 0. */
        private int circleFrom(int least) {
            int bits = 0;
            int v = least;
            for (int i = 0; i < net.size; i++) {
                v = follower[v];
                if (v < least) {
                    return 0;
                }
                bits |= 1 << v;
                if (v == least) {
                    return bits;
                }
            }
            return 0;
        }
    }

    /** Which NODES lead to which; sets here have the HOUSE, too, NODE v as bit v. */
    private static final class Ways {
        private final Net net;
        private final int[] reachedWithout = new int[NODES];

        Ways(Net net) {
            this.net = net;
        }

        int nearestLeading(int v) {
            if (v == 0 || (reached(-1) & (1 << v)) == 0) {
                return NONE;
            }
            for (int d = 0; d < net.size; d++) {
                reachedWithout[d] = reached(d);
            }
            for (int d = 0; d < net.size; d++) {
                if (leads(d, v) && isNearest(d, v)) {
                    return d;
                }
            }
            return NONE;
        }

        private boolean isNearest(int d, int v) {
            for (int e = 0; e < net.size; e++) {
                if (e != d && leads(e, v) && !leads(e, d)) {
                    return false;
                }
            }
            return true;
        }

        /** Asked only of a NODE v that can be come to, or is the HOUSE. */
        private boolean leads(int d, int v) {
            return d != v && v != 0 && (reachedWithout[d] & (1 << v)) == 0;
        }

        /** The NODES that can be come to from the HOUSE without one of them. */
        private int reached(int without) {
            if (without == 0) {
                return 0;
            }
            int found = 1;
            for (int i = 1; i < net.size; i++) {
                for (int a = 0; a < net.size; a++) {
                    if ((found & (1 << a)) != 0) {
                        found |= stepFrom(a, without);
                    }
                }
            }
            return found;
        }

        private int stepFrom(int a, int without) {
            int found = 0;
            for (int b = 0; b < net.size; b++) {
                if (b != without && net.costs[a * NODES + b] != NO) {
                    found |= 1 << b;
                }
            }
            return found;
        }
    }

    /** THE ROW at hand. */
    private static final class Row {
        private final Net net;
        private final int[] numbers = new int[ROW_LENGTH];
        private final int[] trial = new int[ROW_LENGTH];
        int size = 0;

        Row(Net net) {
            this.net = net;
        }

        int append(int v) {
            numbers[size] = v;
            size++;
            return size;
        }

        int cut(int n) {
            int was = size;
            size = n;
            return was;
        }

        int cost() {
            return planCost(numbers, size);
        }

        /** Asked only of a ROW with room for one number more. */
        int cheapestPlace(int v) {
            int least = NO;
            int place = NONE;
            for (int at = 0; at <= size; at++) {
                for (int i = 0; i < size; i++) {
                    trial[i < at ? i : i + 1] = numbers[i];
                }
                trial[at] = v;
                int cost = planCost(trial, size + 1);
                if (cost < least) {
                    least = cost;
                    place = at;
                }
            }
            return place;
        }

        private int planCost(int[] plan, int length) {
            int cost = 0;
            int used = 0;
            int rounds = 0;
            int start = 0;
            for (int i = 0; i < length; i++) {
                if (plan[i] != 0 && (used & bit(plan[i])) != 0) {
                    return NO;
                }
                if (plan[i] != 0) {
                    used |= bit(plan[i]);
                } else {
                    cost = sum(cost, roundCost(plan, start, i));
                    rounds++;
                    start = i + 1;
                }
            }
            if (length > 0) {
                cost = sum(cost, roundCost(plan, start, length));
                rounds++;
            }
            return rounds > net.most ? NO : sum(cost, net.costOut(net.allPlaces() & ~used));
        }

        private int roundCost(int[] plan, int start, int end) {
            int cost = 0;
            int set = 0;
            int load = 0;
            int last = 0;
            for (int i = start; i < end; i++) {
                int v = plan[i];
                if ((net.earlier[v] & ~set) != 0) {
                    return NO;
                }
                cost = sum(cost, net.costs[last * NODES + v]);
                set |= bit(v);
                load += net.loads[v];
                last = v;
            }
            return set == 0 || load > net.room ? NO : sum(cost, net.costBack(last));
        }
    }
}
