import java.util.HashSet;
import java.util.Set;

/** The boundary cases of POLICIES in the description: a test for each sentence. */
public final class PolicyBoundsTest {
    private static final Check check = new Check("PolicyBoundsTest");
    private static final int[] SEEDS = {0, 1, -1, 2, 12345, -12345, 65535, 65536, 99999, -2000000000, 1999999999,
        Integer.MIN_VALUE, Integer.MIN_VALUE + 1, Integer.MAX_VALUE, Integer.MAX_VALUE - 1};

    public static void main(String[] args) {
        intsOverflow();
        anyInt();
        roundRobinGoesOn();
        roundRobinGoesRound();
        roundRobinAtFirst();
        creditsAtFirst();
        onlyAvailableGetCredit();
        greatestCreditOfSeveral();
        creditPaysForAvailable();
        otherCreditsStay();
        exactFractions();
        leastConnectionsOfSeveral();
        fourPointsForAWeight();
        pointsOfTheTenthServer();
        notSmallerThanTheClient();
        unsignedPositions();
        noEqualPositions();
        fromTheLastPointToTheFirst();
        firstPointOfAnAvailableServer();
        availableInAscendingOrder();
        fewerConnections();
        drawnIndex();
        seedAtFirst();
        mixOverflows();
        check.end();
    }

    private static LoadBalancer withWeights(int policy, int... weights) {
        LoadBalancer x = new LoadBalancer();
        for (int weight : weights) {
            x.addServer(weight, 20);
        }
        x.setPolicy(policy);
        return x;
    }

    private static void intsOverflow() {
        check.sentence("int arithmetic may overflow where a formula for hashes or random numbers is given.");
        LoadBalancer x = withWeights(LoadBalancer.HASH, 4, 3, 5);
        Ring ring = new Ring(4, 3, 5);
        for (int client : SEEDS) {
            check.due("the position of " + client, Reference.position(client), longMix(client));
            check.due("owner(" + client + ")", x.owner(client), ring.walk(client, -1));
        }
        x.setPolicy(LoadBalancer.TWO_CHOICES);
        for (int seed : SEEDS) {
            x.setSeed(seed);
            Scenes.useOnce(x, true);
            check.due("two draws from " + seed, x.setSeed(0), (int) drawn(drawn(seed)));
        }
    }

    /** mix without overflow: with longs that are cut to 32 bits. */
    private static long longMix(int number) {
        long x = number & 0xFFFFFFFFL;
        for (int i = 0; i < 2; i++) {
            x ^= x >> 16;
            x = x * 73244475L & 0xFFFFFFFFL;
        }
        return x ^ x >> 16;
    }

    private static void anyInt() {
        check.sentence("The policy selects one of the available servers for a client, which is a number (any int).");
        for (int policy = 0; policy <= 4; policy++) {
            LoadBalancer x = withWeights(policy, 1, 10, 5);
            x.setSticky(100);
            x.setDraining(0, true);
            int connection = 0;
            for (int client : new int[] {Integer.MIN_VALUE, Integer.MIN_VALUE + 1, -1, 0, 1, Integer.MAX_VALUE}) {
                int server = x.preview(client);
                check.due("policy " + policy + ", an available one", server == 1 || server == 2, true);
                check.due("policy " + policy + ", open(" + client + ")", x.open(client), connection);
                check.due("policy " + policy + ", its server", x.serverOf(connection), server);
                connection++;
            }
            Scenes.drainAllBut(x, LoadBalancer.NONE, true);
            check.due("policy " + policy + ", none available", x.preview(0), LoadBalancer.NONE);
            check.dueState("policy " + policy + ", none available", () -> x.open(0));
        }
    }

    private static void roundRobinGoesOn() {
        check.sentence("ROUND_ROBIN: the available server with the smallest number greater than the number of the server "
            + "that was selected last by this policy");
        LoadBalancer x = Scenes.withServers(10);
        check.due("one after the other", Scenes.placeMany(x, 3), "012");
        x.setDraining(3, true);
        x.setDraining(5, true);
        check.due("over a draining one", Scenes.placeMany(x, 2), "46");
        x.setDraining(6, true);
        check.due("the last one is draining itself", Scenes.placeMany(x, 1), "7");
        x.setDraining(5, false);
        check.due("not back to a smaller one", Scenes.placeMany(x, 2), "89");
    }

    private static void roundRobinGoesRound() {
        check.sentence("if there is none, the available server with the smallest number.");
        LoadBalancer x = Scenes.withServers(10);
        check.due("from server 9 to server 0", Scenes.placeMany(x, 12), "012345678901");
        x.setDraining(9, true);
        x.setDraining(0, true);
        check.due("from server 8 to server 1", Scenes.placeMany(x, 8), "23456781");
        LoadBalancer one = Scenes.withServers(1);
        check.due("one server again and again", Scenes.placeMany(one, 3), "000");
        LoadBalancer last = Scenes.withServers(10);
        Scenes.drainAllBut(last, 9, true);
        check.due("server 9 again and again", Scenes.placeMany(last, 3), "999");
    }

    private static void roundRobinAtFirst() {
        check.sentence("(At first, and after a change of the policy to ROUND_ROBIN, no server was selected.)");
        LoadBalancer x = Scenes.withServers(3);
        check.due("at first", x.preview(0), 0);
        for (int policy = 0; policy <= 4; policy++) {
            check.due("two selections", Scenes.placeMany(x, 2), "01");
            x.setPolicy(policy);
            x.open(0);
            x.setPolicy(LoadBalancer.ROUND_ROBIN);
        }
        check.due("after policy 4", x.preview(0), 0);
    }

    private static void creditsAtFirst() {
        check.sentence("WEIGHTED: each server has a credit, at first 0.");
        check.due("2 and 3", Scenes.placeMany(withWeights(LoadBalancer.WEIGHTED, 2, 3), 5), "10101");
        LoadBalancer x = withWeights(LoadBalancer.WEIGHTED, 3);
        x.open(0);
        x.addServer(3, 20);
        // Credits 3 3: the new server has nothing before it was available.
        check.due("a server that is added later", Scenes.placeMany(x, 2), "01");
        LoadBalancer again = withWeights(LoadBalancer.WEIGHTED, 1);
        again.save(0);
        again.addServer(1, 20);
        // 1 1 -> -1 1: the credit of server 1 goes with it.
        again.open(0);
        again.restore(0);
        again.addServer(1, 20);
        check.due("a server in the place of one that a restore took away", Scenes.placeMany(again, 2), "01");
    }

    private static void onlyAvailableGetCredit() {
        check.sentence("The credit of each available server is increased by its effective weight.");
        LoadBalancer x = withWeights(LoadBalancer.WEIGHTED, 1, 10);
        x.setDraining(1, true);
        check.due("one alone", Scenes.placeMany(x, 3), "000");
        x.setDraining(1, false);
        // 1 10 -> 1 -1; 2 9 -> 2 -2: with 30 more it would take server 1 for long.
        check.due("nothing was saved up", Scenes.placeMany(x, 12), "111110111111");
        LoadBalancer slow = withWeights(LoadBalancer.WEIGHTED, 10, 2);
        slow.setSlowStart(10);
        Scenes.recover(slow, 0);
        check.due("effective weights 1 and 2", Scenes.placeMany(slow, 3), "101");
    }

    private static void greatestCreditOfSeveral() {
        check.sentence("The available server with the greatest credit is selected, of several the one with the smallest "
            + "number");
        check.due("ten equal ones", Scenes.placeMany(withWeights(1, 3, 3, 3, 3, 3, 3, 3, 3, 3, 3), 20),
            "01234567890123456789");
        LoadBalancer x = withWeights(LoadBalancer.WEIGHTED, 1, 2, 2);
        // 1 2 2 -> 1 -3 2; 2 -1 4 -> 2 -1 -1; 3 1 1.
        check.due("two equal ones behind a smaller one", Scenes.placeMany(x, 3), "120");
        LoadBalancer drained = withWeights(LoadBalancer.WEIGHTED, 9, 2, 2);
        drained.setDraining(0, true);
        check.due("the greatest is not available", Scenes.placeMany(drained, 2), "12");
        LoadBalancer negative = withWeights(LoadBalancer.WEIGHTED, 10, 10, 10);
        // 10 10 10 -> -20 10 10; then server 0 alone, whose -10 is the greatest credit.
        negative.open(0);
        Scenes.drainAllBut(negative, 0, true);
        check.due("the greatest credit is below 0", Scenes.placeMany(negative, 2), "00");
    }

    private static void creditPaysForAvailable() {
        check.sentence("its credit is decreased by the sum of the effective weights of all available servers.");
        LoadBalancer x = withWeights(LoadBalancer.WEIGHTED, 3, 2, 10);
        x.setDraining(2, true);
        // 3 2 -> -2 2; 1 4 -> 1 -1; 4 1 -> -1 1; 2 3 -> 2 -2; 5 0 -> 0 0.
        check.due("3 and 2, without the draining 10", Scenes.placeMany(x, 5), "01010");
        LoadBalancer slow = withWeights(LoadBalancer.WEIGHTED, 10, 3);
        slow.setSlowStart(10);
        Scenes.recover(slow, 0);
        // 1 3 -> 1 -1; 2 2 -> -2 2; -1 5 -> -1 1; 0 4 -> 0 0.
        check.due("effective weights 1 and 3", Scenes.placeMany(slow, 4), "1011");
    }

    private static void otherCreditsStay() {
        check.sentence("The credits of all other servers stay.");
        LoadBalancer x = withWeights(LoadBalancer.WEIGHTED, 2, 3, 4);
        // 2 3 4 -> 2 3 -5; without server 2: 4 6 -> 4 1; 6 4 -> 1 4.
        check.due("the first", Scenes.placeMany(x, 1), "2");
        x.setDraining(2, true);
        check.due("without server 2", Scenes.placeMany(x, 2), "10");
        x.setDraining(2, false);
        // 3 7 -1 -> 3 -2 -1; 5 1 3 -> -4 1 3; -2 4 7 -> -2 4 -2.
        check.due("server 2 kept its -5", Scenes.placeMany(x, 3), "102");
    }

    /** A balancer with two servers of these weights and connections, and the policy LEAST_CONNECTIONS. */
    private static LoadBalancer quotients(int active0, int weight0, int active1, int weight1) {
        LoadBalancer x = withWeights(LoadBalancer.LEAST_CONNECTIONS, weight0, weight1);
        Scenes.load(x, 0, active0);
        Scenes.load(x, 1, active1);
        return x;
    }

    private static void exactFractions() {
        check.sentence("LEAST_CONNECTIONS: the available server with the smallest quotient (active connections) / "
            + "(effective weight), as exact fractions");
        check.due("19/10 and 17/9", quotients(19, 10, 17, 9).preview(0), 1);
        check.due("17/9 and 19/10", quotients(17, 9, 19, 10).preview(0), 0);
        check.due("19/10 and 18/9", quotients(19, 10, 18, 9).preview(0), 0);
        check.due("18/9 and 19/10", quotients(18, 9, 19, 10).preview(0), 1);
        check.due("1/9 and 1/10", quotients(1, 9, 1, 10).preview(0), 1);
        check.due("1/10 and 0/1", quotients(1, 10, 0, 1).preview(0), 1);
        check.due("19/1 and 18/1", quotients(19, 1, 18, 1).preview(0), 1);
        LoadBalancer slow = quotients(2, 10, 1, 3);
        check.due("2/10 and 1/3", slow.preview(0), 0);
        slow.setSlowStart(10);
        Scenes.recover(slow, 0);
        check.due("2/1 and 1/3, in a slow start", slow.preview(0), 1);
        slow.setDraining(1, true);
        check.due("the smallest one is not available", slow.preview(0), 0);
    }

    private static void leastConnectionsOfSeveral() {
        check.sentence("of several, the one with the smallest number.");
        check.due("0/1 and 0/10", quotients(0, 1, 0, 10).preview(0), 0);
        check.due("1/3 and 2/6", quotients(1, 3, 2, 6).preview(0), 0);
        check.due("2/6 and 1/3", quotients(2, 6, 1, 3).preview(0), 0);
        check.due("18/9 and 16/8", quotients(18, 9, 16, 8).preview(0), 0);
        check.due("16/8 and 18/9", quotients(16, 8, 18, 9).preview(0), 0);
        LoadBalancer x = withWeights(LoadBalancer.LEAST_CONNECTIONS, 1, 2, 3, 3);
        check.due("none has one", Scenes.placeMany(x, 4), "0123");
        // 1/1 1/2 1/3 1/3; 1/1 1/2 2/3 1/3; 1/1 1/2 2/3 2/3; 1/1 2/2 2/3 2/3; 1/1 2/2 3/3 2/3; all 1.
        check.due("on to 1 each", Scenes.placeMany(x, 5), "23123");
        check.due("all are 1", x.preview(0), 0);
    }

    /** A client with the number of a point has the point's position, so that the point itself is found if there is one. */
    private static void fourPointsForAWeight() {
        check.sentence("HASH: each server has 4 * weight points, numbered from 0.");
        int seen = 0;
        for (int server = 0; server < 2; server++) {
            for (int weight = 1; weight <= 9; weight++) {
                LoadBalancer x = withWeights(LoadBalancer.HASH, server == 0 ? weight : 10, server == 0 ? 10 : weight);
                int first = 1000 * server;
                check.due("point 0 of server " + server, x.owner(first), server);
                check.due("the last of weight " + weight, x.owner(first + 4 * weight - 1), server);
                int behind = x.owner(first + 4 * weight);
                x.setWeight(server, weight + 1);
                check.due("the first of weight " + (weight + 1), x.owner(first + 4 * weight), server);
                seen += behind == server ? 0 : 1;
            }
        }
        // Where the point behind the last one is missing, the other server is mostly the next; else it could not be seen.
        check.due("points that are missing were seen", seen >= 6, true);
        Ring ring = new Ring(3, 10);
        check.due("no point 12 with weight 3", withWeights(3, 3, 10).owner(12), ring.walk(12, -1));
        check.due("no point -1", withWeights(3, 3, 10).owner(-1), ring.walk(-1, -1));
        LoadBalancer slow = withWeights(LoadBalancer.HASH, 10, 10);
        slow.setSlowStart(50);
        Scenes.recover(slow, 0);
        check.due("an effective weight of 1", slow.effectiveWeight(0), 1);
        for (int k = 0; k < 40; k++) {
            check.due("the points are those of the weight, preview(" + k + ")", slow.preview(k), 0);
            check.due("the points are those of the weight, owner(" + k + ")", slow.owner(k), 0);
        }
    }

    private static void pointsOfTheTenthServer() {
        check.sentence("Point k of server s has the position mix(1000 * s + k), and a client has the position mix(client).");
        LoadBalancer x = withWeights(LoadBalancer.HASH, 10, 10, 10, 10, 10, 10, 10, 10, 10, 10);
        for (int server = 0; server < 10; server++) {
            for (int k = 0; k < 40; k++) {
                check.due("owner(" + (1000 * server + k) + ")", x.owner(1000 * server + k), server);
            }
        }
        check.due("preview(9039)", x.preview(9039), 9);
    }

    private static void notSmallerThanTheClient() {
        check.sentence("Starting with the first point whose position is not smaller than that of the client");
        int[] weights = {1, 2, 3};
        LoadBalancer x = withWeights(LoadBalancer.HASH, weights);
        Ring ring = new Ring(weights);
        for (int place = 0; place < ring.size(); place++) {
            int position = ring.position(place);
            int next = ring.server((place + 1) % ring.size());
            check.due("before point " + place, x.preview(Ring.clientAt(position - 1)), ring.server(place));
            check.due("at point " + place, x.preview(Ring.clientAt(position)), ring.server(place));
            check.due("behind point " + place, x.preview(Ring.clientAt(position + 1)), next);
            check.due("owner behind point " + place, x.owner(Ring.clientAt(position + 1)), next);
        }
    }

    private static void unsignedPositions() {
        check.sentence("Positions are compared as unsigned 32-bit numbers");
        int seen = 0;
        for (int weight = 1; weight <= 10; weight++) {
            LoadBalancer x = withWeights(LoadBalancer.HASH, weight, 11 - weight);
            Ring ring = new Ring(weight, 11 - weight);
            // As signed numbers 0x7FFFFFFF would be the last position, and 0x80000000 the first one.
            for (int position : new int[] {Integer.MAX_VALUE, Integer.MIN_VALUE, Integer.MIN_VALUE + 1, -1, 0, 1}) {
                int client = Ring.clientAt(position);
                check.due("at " + Integer.toHexString(position), x.owner(client), ring.walk(client, -1));
            }
            seen += ring.walk(Ring.clientAt(-1), -1) == ring.walk(Ring.clientAt(Integer.MAX_VALUE), -1) ? 0 : 1;
        }
        check.due("rings where the order of the halves is seen", seen > 0, true);
    }

    /** mix is one-to-one, so the order of points with equal positions can never be seen. */
    private static void noEqualPositions() {
        check.sentence("points with equal positions by server and then by number of the point.");
        Set<Long> positions = new HashSet<>();
        for (int server = 0; server < 10; server++) {
            for (int k = 0; k < 40; k++) {
                positions.add(Reference.position(1000 * server + k));
            }
        }
        check.due("different positions of all points", positions.size(), 400);
    }

    private static void fromTheLastPointToTheFirst() {
        check.sentence("and going on in ascending order and from the last point to the first one");
        int behindServer1 = 0;
        for (int weight = 1; weight <= 10; weight++) {
            int[] weights = {1, 2, weight};
            LoadBalancer x = withWeights(LoadBalancer.HASH, weights);
            Ring ring = new Ring(weights);
            int last = ring.position(ring.size() - 1);
            check.due("at the last point", x.owner(Ring.clientAt(last)), ring.server(ring.size() - 1));
            check.due("behind the last point", x.owner(Ring.clientAt(last + 1)), ring.server(0));
            check.due("at the greatest position", x.owner(Ring.clientAt(-1)), ring.server(0));
            check.due("at the position 0", x.owner(Ring.clientAt(0)), ring.server(0));
            // mix(0) is 0, so that the first point is always one of server 0: without it another one is the first.
            x.setDraining(0, true);
            for (int position : new int[] {last, last + 1, -1}) {
                int client = Ring.clientAt(position);
                check.due("round the end without server 0", x.preview(client), ring.walk(client, 0));
            }
            behindServer1 += ring.walk(Ring.clientAt(-1), 0) == 1 ? 0 : 1;
        }
        check.due("rings where server 2 comes before server 1", behindServer1 > 0, true);
    }

    private static void firstPointOfAnAvailableServer() {
        check.sentence("the first point that belongs to an available server selects this server.");
        LoadBalancer x = withWeights(LoadBalancer.HASH, 10, 1, 10);
        Ring ring = new Ring(10, 1, 10);
        for (int without = 0; without < 3; without++) {
            x.setDraining(without, true);
            for (int place = 0; place < ring.size(); place++) {
                int client = Ring.clientAt(ring.position(place));
                check.due("without server " + without, x.preview(client), ring.walk(client, without));
            }
            x.setDraining(without, false);
        }
        Scenes.drainAllBut(x, 1, true);
        for (int client = -20; client < 20; client++) {
            check.due("server 1 alone has few points", x.preview(client), 1);
        }
        x.setDraining(1, true);
        check.due("none", x.preview(0), LoadBalancer.NONE);
    }

    /** The seed that follows, as a long, so that no sign is in the way. */
    private static long drawn(long seed) {
        return (seed * 1103515245L + 12345L) & 0xFFFFFFFFL;
    }

    private static int index(long drawn, int m) {
        return (int) ((drawn >> 16) % m);
    }

    private static void availableInAscendingOrder() {
        check.sentence("TWO_CHOICES: with m as the number of available servers in ascending order, two random indices i and "
            + "j are drawn, one after the other");
        int[] available = {1, 4, 5, 9};
        LoadBalancer x = Scenes.withServers(10);
        for (int server : new int[] {0, 2, 3, 6, 7, 8}) {
            x.setDraining(server, true);
        }
        x.setPolicy(LoadBalancer.TWO_CHOICES);
        for (int seed : SEEDS) {
            x.setSeed(seed);
            // No server has a connection, so the first index counts.
            check.due("seed " + seed, x.preview(0), available[index(drawn(seed), 4)]);
        }
        LoadBalancer one = Scenes.withServers(1);
        one.setPolicy(LoadBalancer.TWO_CHOICES);
        one.open(0);
        check.due("two are drawn for one server as well", one.setSeed(0), (int) drawn(drawn(1)));
        one.setDraining(0, true);
        one.setSeed(7);
        check.dueState("open without a server", () -> one.open(0));
        check.due("nothing is drawn without a server", one.setSeed(0), 7);
    }

    private static void fewerConnections() {
        check.sentence("the server with index i is selected unless the server with index j has fewer active connections.");
        for (int seed : SEEDS) {
            int i = index(drawn(seed), 3);
            int j = index(drawn(drawn(seed)), 3);
            check.due("equally many", loaded(seed, 3, i, 2, j, 2), i);
            check.due("one fewer at j", loaded(seed, 3, i, 3, j, 2), i == j ? i : j);
            check.due("one more at j", loaded(seed, 3, i, 2, j, 3), i);
            check.due("none at j", loaded(seed, 3, i, 1, j, 0), i == j ? i : j);
        }
        unlikeServers();
    }

    /** Neither the weights nor the capacities count. */
    private static void unlikeServers() {
        for (int seed : SEEDS) {
            LoadBalancer x = new LoadBalancer();
            x.addServer(1, 20);
            x.addServer(10, 3);
            Scenes.load(x, 0, 3);
            Scenes.load(x, 1, 2);
            x.setPolicy(LoadBalancer.TWO_CHOICES);
            x.setSeed(seed);
            int i = index(drawn(seed), 2);
            int j = index(drawn(drawn(seed)), 2);
            check.due("3 of 20 and 2 of 3", x.preview(0), i == 0 && j == 0 ? 0 : 1);
            x.setDraining(1, true);
            check.due("the one that is available", x.preview(0), 0);
        }
    }

    /** The server that TWO_CHOICES selects with the seed if server i and server j have so many connections. */
    private static int loaded(int seed, int servers, int i, int activeI, int j, int activeJ) {
        LoadBalancer x = Scenes.withServers(servers);
        Scenes.load(x, i, activeI);
        if (i != j) {
            Scenes.load(x, j, activeJ);
        }
        x.setPolicy(LoadBalancer.TWO_CHOICES);
        x.setSeed(seed);
        return x.preview(0);
    }

    private static void drawnIndex() {
        check.sentence("To draw an index, the seed becomes seed * 1103515245 + 12345 (an int), and the index is (seed >>> 16) "
            + "% m.");
        int negative = 0;
        for (int m = 1; m <= 10; m++) {
            for (int seed : SEEDS) {
                int i = index(drawn(seed), m);
                int j = index(drawn(drawn(seed)), m);
                LoadBalancer x = Scenes.withServers(m);
                x.setPolicy(LoadBalancer.TWO_CHOICES);
                x.setSeed(seed);
                check.due("m " + m + ", seed " + seed + ", i", Scenes.place(x, 0), i);
                check.due("m " + m + ", seed " + seed + ", then", x.setSeed(seed), (int) drawn(drawn(seed)));
                // Server i has one connection now and no other server has any.
                check.due("m " + m + ", seed " + seed + ", j", x.preview(0), j);
                negative += (int) drawn(seed) < 0 ? 1 : 0;
            }
        }
        check.due("seeds below 0 were drawn", negative > 0, true);
    }

    private static void seedAtFirst() {
        check.sentence("The seed is 1 at first.");
        LoadBalancer x = Scenes.withServers(7);
        x.setPolicy(LoadBalancer.TWO_CHOICES);
        check.due("the first selection", x.preview(0), index(drawn(1), 7));
        check.due("setSeed(5)", x.setSeed(5), 1);
    }

    /** Positions that were worked out apart from this project, with the 32-bit arithmetic of another language. */
    private static void mixOverflows() {
        check.sentence("The function mix(x) of an int is: x ^= x >>> 16; x *= 73244475; x ^= x >>> 16; x *= 73244475; x ^= x "
            + ">>> 16.");
        int[] numbers = {0, 1, -1, 39, 1000, 9000, 9039, 65535, 65536, Integer.MAX_VALUE, Integer.MIN_VALUE};
        long[] due = {0L, 824515495L, 539527247L, 152592338L, 4040455147L, 3682644207L, 2240968550L,
            3392487869L, 3572949607L, 3192437470L, 1029333365L};
        for (int i = 0; i < numbers.length; i++) {
            check.due("mix(" + numbers[i] + ")", Reference.position(numbers[i]), due[i]);
        }
        // The class must agree: a client at the point's very position gets its server, one behind it the next one.
        int[] weights = {1, 1, 1, 1, 1, 1, 1, 1, 1, 1};
        LoadBalancer x = withWeights(LoadBalancer.HASH, weights);
        Ring ring = new Ring(weights);
        for (int client : numbers) {
            check.due("owner(" + client + ")", x.owner(client), ring.walk(client, -1));
        }
    }
}
