import java.util.ArrayList;
import java.util.List;

/** The five policies of the description, which promises 11, 14, 15 and 23 use. */
public final class PoliciesTest {
    private static final Check check = new Check("PoliciesTest");

    public static void main(String[] args) {
        roundRobin();
        roundRobinSkips();
        weighted();
        weightedSkips();
        weightedWithSlowStart();
        leastConnections();
        leastConnectionsWithSlowStart();
        hash();
        hashSkips();
        hashWithEqualPosition();
        hashBesideThePoints();
        hashInASlowStart();
        twoChoices();
        tenServers();
        check.end();
    }

    private static void tenServers() {
        for (int policy = 0; policy <= 4; policy++) {
            LoadBalancer x = Scenes.withServers(10);
            x.setPolicy(policy);
            for (int i = 0; i < 200; i++) {
                check.due("policy " + policy + " with 10 servers", x.open(i), i);
            }
            for (int server = 0; server < 10; server++) {
                check.due("policy " + policy + ", every server is full", x.active(server), 20);
            }
            check.due("policy " + policy + ", active connections", x.count(1), 200);
            check.dueState("policy " + policy + ", no room", () -> x.open(0));
            check.due("policy " + policy + ", a tick", x.tick(1), 1);
        }
    }

    private static void roundRobin() {
        LoadBalancer x = Scenes.withServers(3);
        check.due("ROUND_ROBIN", Scenes.placeMany(x, 7), "0120120");
        x.addServer(1, 20);
        check.due("ROUND_ROBIN with one more", Scenes.placeMany(x, 4), "1230");
    }

    private static void roundRobinSkips() {
        LoadBalancer x = Scenes.withServers(4);
        x.setDraining(0, true);
        x.setDraining(2, true);
        check.due("ROUND_ROBIN over 1 and 3", Scenes.placeMany(x, 4), "1313");
        x.setDraining(3, true);
        x.setDraining(2, false);
        check.due("ROUND_ROBIN goes on behind the last one", Scenes.placeMany(x, 3), "121");
        x.setDraining(1, true);
        x.setDraining(2, true);
        check.dueState("ROUND_ROBIN without any", () -> x.open(0));
        x.setDraining(1, false);
        x.setDraining(2, false);
        check.due("ROUND_ROBIN after a rejection", Scenes.placeMany(x, 1), "2");
    }

    private static void weighted() {
        LoadBalancer x = new LoadBalancer();
        x.addServer(5, 20);
        x.addServer(1, 20);
        x.addServer(1, 20);
        x.setPolicy(LoadBalancer.WEIGHTED);
        check.due("WEIGHTED 5 1 1", Scenes.placeMany(x, 14), "00102000010200");
    }

    private static void weightedSkips() {
        LoadBalancer x = new LoadBalancer();
        x.addServer(3, 20);
        x.addServer(2, 20);
        x.setPolicy(LoadBalancer.WEIGHTED);
        // Credits 3 2 -> server 0 -> -2 2.
        check.due("WEIGHTED 3 2", Scenes.placeMany(x, 1), "0");
        x.setDraining(1, true);
        // Only server 0 counts: -2 + 3 - 3 = -2, and server 1 keeps 2.
        check.due("WEIGHTED, one alone", Scenes.placeMany(x, 3), "000");
        x.setDraining(1, false);
        // 1 4 -> server 1 -> 1 -1; 4 1 -> server 0 -> -1 1; 2 3 -> server 1.
        check.due("WEIGHTED, the credits stayed", Scenes.placeMany(x, 3), "101");
    }

    private static void weightedWithSlowStart() {
        LoadBalancer x = new LoadBalancer();
        x.addServer(10, 20);
        x.addServer(2, 20);
        x.setPolicy(LoadBalancer.WEIGHTED);
        x.setSlowStart(10);
        Scenes.recover(x, 0);
        // Effective weights 1 and 2: 1 2 -> 1 -> 1 -1; 2 1 -> 0 -> -1 1; 0 3 -> 1 -> 0 0.
        check.due("WEIGHTED in a slow start", Scenes.placeMany(x, 6), "101101");
        x.tick(10);
        check.due("WEIGHTED after it", Scenes.placeMany(x, 6), "000100");
    }

    private static void leastConnections() {
        LoadBalancer x = new LoadBalancer();
        x.addServer(3, 20);
        x.addServer(2, 20);
        x.addServer(1, 2);
        x.setPolicy(LoadBalancer.LEAST_CONNECTIONS);
        // 0/3 0/2 0/1; 1/3 0/2 0/1; 1/3 1/2 0/1; 1/3 1/2 1/1; 2/3 1/2 1/1; 2/3 2/2 1/1; 3/3 2/2 1/1 (a tie).
        check.due("LEAST_CONNECTIONS 3 2 1", Scenes.placeMany(x, 7), "0120100");
        x.close(2, true);
        check.due("LEAST_CONNECTIONS after a close", Scenes.placeMany(x, 1), "2");
        x.setDraining(0, true);
        // 2/2 against 1/1: the smaller number; then 1/1 against 3/2: server 2, which is full then.
        check.due("LEAST_CONNECTIONS, one draining", Scenes.placeMany(x, 4), "1211");
    }

    private static void leastConnectionsWithSlowStart() {
        LoadBalancer x = new LoadBalancer();
        x.addServer(10, 20);
        x.addServer(3, 20);
        x.setPolicy(LoadBalancer.LEAST_CONNECTIONS);
        x.setSlowStart(10);
        Scenes.recover(x, 0);
        // Effective weights 1 and 3: 0/1 0/3; 1/1 0/3; 1/1 1/3; 1/1 2/3; 1/1 3/3 (a tie).
        check.due("LEAST_CONNECTIONS in a slow start", Scenes.placeMany(x, 5), "01110");
    }

    private static void hash() {
        int[] weights = {5, 1, 10, 3};
        LoadBalancer x = new LoadBalancer();
        for (int weight : weights) {
            x.addServer(weight, 20);
        }
        x.setPolicy(LoadBalancer.HASH);
        Ring ring = new Ring(weights);
        for (int i = 0; i < 200; i++) {
            int client = i < 100 ? i - 50 : i * 1234567891;
            check.due("HASH, owner(" + client + ")", x.owner(client), ring.walk(client, -1));
            check.due("HASH, preview(" + client + ")", x.preview(client), ring.walk(client, -1));
        }
    }

    private static void hashSkips() {
        int[] weights = {2, 4, 6};
        LoadBalancer x = new LoadBalancer();
        for (int weight : weights) {
            x.addServer(weight, 20);
        }
        x.setPolicy(LoadBalancer.HASH);
        x.setDraining(2, true);
        Ring ring = new Ring(weights);
        for (int client = 0; client < 100; client++) {
            check.due("HASH without 2, preview(" + client + ")", x.preview(client), ring.walk(client, 2));
            check.due("HASH without 2, owner(" + client + ")", x.owner(client), ring.walk(client, -1));
        }
    }

    /** A client with the number of a point has its very position, and the point is not smaller. */
    private static void hashWithEqualPosition() {
        LoadBalancer x = Scenes.withServers(10);
        for (int server = 0; server < 10; server++) {
            for (int k = 0; k < 4; k++) {
                check.due("HASH, a client at a point", x.owner(1000 * server + k), server);
            }
        }
    }

    /** Clients one before, at and one behind each point, and at both ends of the positions. */
    private static void hashBesideThePoints() {
        int[] weights = {2, 10, 1, 7, 3, 5, 4, 6, 9, 8};
        LoadBalancer x = new LoadBalancer();
        for (int weight : weights) {
            x.addServer(weight, 20);
        }
        Ring ring = new Ring(weights);
        List<Integer> positions = new ArrayList<>(List.of(0, -1, Integer.MAX_VALUE, Integer.MIN_VALUE));
        for (int place = 0; place < ring.size(); place++) {
            positions.add(ring.position(place) - 1);
            positions.add(ring.position(place));
            positions.add(ring.position(place) + 1);
        }
        for (int position : positions) {
            int client = Ring.clientAt(position);
            check.due("HASH, the client's position", Reference.position(client), position & 0xFFFFFFFFL);
            check.due("HASH, owner at " + position, x.owner(client), ring.walk(client, -1));
        }
    }

    private static void hashInASlowStart() {
        Ring ring = new Ring(10, 10);
        LoadBalancer x = new LoadBalancer();
        x.addServer(10, 20);
        x.addServer(10, 20);
        x.setPolicy(LoadBalancer.HASH);
        x.setSlowStart(50);
        Scenes.recover(x, 0);
        for (int client = 0; client < 100; client++) {
            check.due("HASH in a slow start, the points stay", x.preview(client), ring.walk(client, -1));
        }
    }

    private static void twoChoices() {
        LoadBalancer x = Scenes.withServers(5);
        x.setPolicy(LoadBalancer.TWO_CHOICES);
        x.setDraining(1, true);
        int[] available = {0, 2, 3, 4};
        int[] load = new int[5];
        int seed = 1;
        for (int i = 0; i < 40; i++) {
            seed = seed * 1103515245 + 12345;
            int first = available[(seed >>> 16) % 4];
            seed = seed * 1103515245 + 12345;
            int second = available[(seed >>> 16) % 4];
            int due = load[second] < load[first] ? second : first;
            load[due]++;
            check.due("TWO_CHOICES, selection " + i, Scenes.place(x, i), due);
        }
        check.due("TWO_CHOICES, the seed", x.setSeed(5), seed);
    }
}
