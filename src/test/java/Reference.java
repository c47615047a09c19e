import java.util.ArrayDeque;
import java.util.ArrayList;
import java.util.Comparator;
import java.util.Deque;
import java.util.List;
import java.util.Map;
import java.util.TreeMap;

/**
 * The document once more, as literally as can be and without a thought for speed: every tick is gone through, the
 * points are sorted, preview opens a connection in a copy. ModelTest compares the class with it.
 */
final class Reference {
    private static final int CLOSED = 0, OPEN = 1, HALF_OPEN = 2;

    private static final class Server {
        int weight, capacity, active, credit;
        boolean healthy = true, draining = false;
        int failedInARow, passedInARow;
        Integer becameHealthyAt = null;
        int breaker = CLOSED, becameOpenAt;
        Integer acceptedHalfOpen = null;
        Deque<Boolean> results = new ArrayDeque<>();

        Server copy() {
            Server c = new Server();
            c.weight = weight;
            c.capacity = capacity;
            c.active = active;
            c.credit = credit;
            c.healthy = healthy;
            c.draining = draining;
            c.failedInARow = failedInARow;
            c.passedInARow = passedInARow;
            c.becameHealthyAt = becameHealthyAt;
            c.breaker = breaker;
            c.becameOpenAt = becameOpenAt;
            c.acceptedHalfOpen = acceptedHalfOpen;
            c.results = new ArrayDeque<>(results);
            return c;
        }
    }

    private static final class Connection {
        int server, openedAt;
        boolean active = true;

        Connection copy() {
            Connection c = new Connection();
            c.server = server;
            c.openedAt = openedAt;
            c.active = active;
            return c;
        }
    }

    private List<Server> servers = new ArrayList<>();
    private List<Connection> connections = new ArrayList<>();
    /** For each remembered client the number of its latest connection. */
    private Map<Integer, Integer> latest = new TreeMap<>();
    private int rise = 2, fall = 3, window = 0, cool = 5, sticky = 0, policy = 0, seed = 1, time = 0, rejections = 0;
    private Integer selectedLast = null;
    private final Reference[] slots = new Reference[2];

    private void take(Reference o) {
        servers = new ArrayList<>();
        for (Server s : o.servers) {
            servers.add(s.copy());
        }
        connections = new ArrayList<>();
        for (Connection c : o.connections) {
            connections.add(c.copy());
        }
        latest = new TreeMap<>(o.latest);
        rise = o.rise;
        fall = o.fall;
        window = o.window;
        cool = o.cool;
        sticky = o.sticky;
        policy = o.policy;
        seed = o.seed;
        time = o.time;
        rejections = o.rejections;
        selectedLast = o.selectedLast;
    }

    private static void argument(boolean right) {
        if (!right) {
            throw new IllegalArgumentException();
        }
    }

    private static void state(boolean right) {
        if (!right) {
            throw new IllegalStateException();
        }
    }

    private Server server(int number) {
        if (number < 0 || number >= servers.size()) {
            throw new IndexOutOfBoundsException();
        }
        return servers.get(number);
    }

    private Connection connection(int number) {
        if (number < 0 || number >= connections.size()) {
            throw new IndexOutOfBoundsException();
        }
        return connections.get(number);
    }

    int addServer(int weight, int capacity) {
        argument(weight >= 1 && weight <= 10 && capacity >= 1 && capacity <= 20);
        state(servers.size() < 10);
        Server s = new Server();
        s.weight = weight;
        s.capacity = capacity;
        servers.add(s);
        return servers.size() - 1;
    }

    int setWeight(int server, int weight) {
        Server s = server(server);
        argument(weight >= 1 && weight <= 10);
        int before = s.weight;
        s.weight = weight;
        return before;
    }

    boolean setDraining(int server, boolean draining) {
        boolean before = server(server).draining;
        server(server).draining = draining;
        return before;
    }

    boolean report(int server, boolean passed) {
        Server s = server(server);
        if (passed) {
            s.passedInARow++;
            s.failedInARow = 0;
        } else {
            s.failedInARow++;
            s.passedInARow = 0;
        }
        if (s.healthy && !passed && s.failedInARow >= fall) {
            s.healthy = false;
            s.passedInARow = 0;
            s.failedInARow = 0;
        } else if (!s.healthy && passed && s.passedInARow >= rise) {
            s.healthy = true;
            s.passedInARow = 0;
            s.failedInARow = 0;
            s.becameHealthyAt = time;
        }
        return s.healthy;
    }

    int servers() {
        return servers.size();
    }

    void setThresholds(int rise, int fall) {
        argument(rise >= 1 && rise <= 9 && fall >= 1 && fall <= 9);
        this.rise = rise;
        this.fall = fall;
    }

    int setSlowStart(int window) {
        argument(window >= 0 && window <= 50);
        int before = this.window;
        this.window = window;
        return before;
    }

    int setCool(int cool) {
        argument(cool >= 1 && cool <= 50);
        int before = this.cool;
        this.cool = cool;
        return before;
    }

    int setSticky(int duration) {
        argument(duration >= 0 && duration <= 100);
        int before = sticky;
        sticky = duration;
        if (sticky == 0) {
            latest.clear();
        }
        return before;
    }

    int setPolicy(int policy) {
        argument(policy >= 0 && policy <= 4);
        int before = this.policy;
        this.policy = policy;
        for (Server s : servers) {
            s.credit = 0;
        }
        selectedLast = null;
        return before;
    }

    int setSeed(int seed) {
        int before = this.seed;
        this.seed = seed;
        return before;
    }

    int tick(int n) {
        argument(n >= 1 && n <= 200);
        for (int i = 0; i < n; i++) {
            time++;
            for (Server s : servers) {
                if (s.breaker == OPEN && time - s.becameOpenAt >= cool) {
                    s.breaker = HALF_OPEN;
                    s.acceptedHalfOpen = null;
                }
            }
        }
        return time;
    }

    int preview(int client) {
        Reference copy = new Reference();
        copy.take(this);
        try {
            return copy.serverOf(copy.open(client));
        } catch (IllegalStateException e) {
            return -1;
        }
    }

    int open(int client) {
        int chosen = connections.size() >= 1000 ? -1 : choose(client);
        if (chosen < 0) {
            rejections++;
            throw new IllegalStateException();
        }
        Connection c = new Connection();
        c.server = chosen;
        c.openedAt = time;
        connections.add(c);
        int number = connections.size() - 1;
        Server s = servers.get(chosen);
        s.active++;
        if (s.breaker == HALF_OPEN) {
            s.acceptedHalfOpen = number;
        }
        if (sticky > 0) {
            remember(client, number);
        }
        return number;
    }

    private void remember(int client, int number) {
        if (!latest.containsKey(client) && latest.size() >= 40) {
            Integer oldest = null;
            for (Integer known : latest.keySet()) {
                if (oldest == null || openedAt(known) < openedAt(oldest)) {
                    oldest = known;
                }
            }
            latest.remove(oldest);
        }
        latest.put(client, number);
    }

    private int openedAt(Integer client) {
        return connections.get(latest.get(client)).openedAt;
    }

    private int choose(int client) {
        if (sticky > 0 && latest.containsKey(client)) {
            Connection c = connections.get(latest.get(client));
            if (time - c.openedAt < sticky && isAvailable(c.server)) {
                return c.server;
            }
        }
        List<Integer> available = new ArrayList<>();
        for (int i = 0; i < servers.size(); i++) {
            if (isAvailable(i)) {
                available.add(i);
            }
        }
        if (available.isEmpty()) {
            return -1;
        }
        switch (policy) {
            case 0: return roundRobin(available);
            case 1: return weighted(available);
            case 2: return leastConnections(available);
            case 3: return hash(client, available);
            default: return twoChoices(available);
        }
    }

    private int roundRobin(List<Integer> available) {
        int chosen = available.get(0);
        if (selectedLast != null) {
            for (int i = available.size() - 1; i >= 0; i--) {
                if (available.get(i) > selectedLast) {
                    chosen = available.get(i);
                }
            }
        }
        selectedLast = chosen;
        return chosen;
    }

    private int weighted(List<Integer> available) {
        int sum = 0;
        for (int i : available) {
            servers.get(i).credit += effectiveWeight(i);
            sum += effectiveWeight(i);
        }
        int chosen = available.get(0);
        for (int i : available) {
            if (servers.get(i).credit > servers.get(chosen).credit) {
                chosen = i;
            }
        }
        servers.get(chosen).credit -= sum;
        return chosen;
    }

    private int leastConnections(List<Integer> available) {
        int chosen = available.get(0);
        for (int i : available) {
            long left = (long) active(i) * effectiveWeight(chosen);
            long right = (long) active(chosen) * effectiveWeight(i);
            if (left < right) {
                chosen = i;
            }
        }
        return chosen;
    }

    static long position(int x) {
        x ^= x >>> 16;
        x *= 73244475;
        x ^= x >>> 16;
        x *= 73244475;
        x ^= x >>> 16;
        return x & 0xFFFFFFFFL;
    }

    private int hash(int client, List<Integer> allowed) {
        List<long[]> points = new ArrayList<>();
        for (int s = 0; s < servers.size(); s++) {
            for (int k = 0; k < 4 * servers.get(s).weight; k++) {
                points.add(new long[] {position(1000 * s + k), s, k});
            }
        }
        points.sort(Comparator.<long[]>comparingLong(p -> p[0]).thenComparingLong(p -> p[1]).thenComparingLong(p -> p[2]));
        long start = position(client);
        for (long[] p : points) {
            if (p[0] >= start && allowed.contains((int) p[1])) {
                return (int) p[1];
            }
        }
        for (long[] p : points) {
            if (allowed.contains((int) p[1])) {
                return (int) p[1];
            }
        }
        return -1;
    }

    private int twoChoices(List<Integer> available) {
        int i = available.get(draw(available.size()));
        int j = available.get(draw(available.size()));
        return active(j) < active(i) ? j : i;
    }

    private int draw(int m) {
        seed = seed * 1103515245 + 12345;
        return (seed >>> 16) % m;
    }

    int close(int connection, boolean good) {
        Connection c = connection(connection);
        state(c.active);
        c.active = false;
        Server s = servers.get(c.server);
        s.active--;
        if (s.breaker == CLOSED) {
            if (s.results.size() == 8) {
                s.results.removeFirst();
            }
            s.results.addLast(good);
            int bad = 0;
            for (boolean result : s.results) {
                bad += result ? 0 : 1;
            }
            if (s.results.size() >= 4 && bad >= s.results.size() - bad) {
                s.breaker = OPEN;
                s.becameOpenAt = time;
            }
        } else if (s.breaker == HALF_OPEN && s.acceptedHalfOpen != null && s.acceptedHalfOpen == connection) {
            s.results.clear();
            s.breaker = good ? CLOSED : OPEN;
            s.becameOpenAt = time;
        }
        return time - c.openedAt;
    }

    int serverOf(int connection) {
        return connection(connection).server;
    }

    boolean isAvailable(int server) {
        Server s = server(server);
        if (!s.healthy || s.draining || s.active >= s.capacity) {
            return false;
        }
        return s.breaker == CLOSED || s.breaker == HALF_OPEN && s.acceptedHalfOpen == null;
    }

    int effectiveWeight(int server) {
        Server s = server(server);
        if (s.becameHealthyAt != null && time - s.becameHealthyAt < window) {
            int e = time - s.becameHealthyAt;
            int weight = s.weight * (e + 1) / window;
            return weight < 1 ? 1 : weight;
        }
        return s.weight;
    }

    int active(int server) {
        return server(server).active;
    }

    double utilization(int server) {
        return server(server).active / (double) server(server).capacity;
    }

    int breaker(int server) {
        return server(server).breaker;
    }

    int owner(int client) {
        state(!servers.isEmpty());
        List<Integer> all = new ArrayList<>();
        for (int i = 0; i < servers.size(); i++) {
            all.add(i);
        }
        return hash(client, all);
    }

    int count(int what) {
        argument(what >= 0 && what <= 4);
        int active = 0;
        for (Connection c : connections) {
            active += c.active ? 1 : 0;
        }
        return new int[] {time, active, connections.size(), rejections, latest.size()}[what];
    }

    void save(int slot) {
        argument(slot == 0 || slot == 1);
        slots[slot] = new Reference();
        slots[slot].take(this);
    }

    void restore(int slot) {
        argument(slot == 0 || slot == 1);
        state(slots[slot] != null);
        take(slots[slot]);
    }
}
