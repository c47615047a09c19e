/**
 * Distributes connections of clients over servers. The rules, numbered as promises, are in ../shared/DOC.md.
 *
 * Everything that save() keeps lives in one State, so saving and restoring are one copy between two States. No call
 * makes an object, but for an exception that it throws and for the first save in a slot.
 */
public final class LoadBalancer {
    public static final int ROUND_ROBIN = 0, WEIGHTED = 1, LEAST_CONNECTIONS = 2, HASH = 3, TWO_CHOICES = 4;
    public static final int CLOSED = 0, OPEN = 1, HALF_OPEN = 2;
    public static final int NONE = -1;

    private static final int MAX_SERVERS = 10;
    private static final int MAX_WEIGHT = 10;
    private static final int MAX_CAPACITY = 20;
    private static final int MAX_THRESHOLD = 9;
    private static final int MAX_WINDOW = 50;
    private static final int MAX_COOL = 50;
    private static final int MAX_DURATION = 100;
    private static final int MAX_TICKS = 200;
    private static final int MAX_CONNECTIONS = 1000;
    private static final int MAX_CLIENTS = 40;
    private static final int SLOTS = 2;

    private static final int MAX_RESULTS = 8;
    private static final int ENOUGH_RESULTS = 4;
    private static final int ALL_RESULTS = 0xFF;

    private static final int POINTS_PER_WEIGHT = 4;
    private static final int POINT_STRIDE = 1000;
    private static final int MIX_FACTOR = 73244475;
    private static final int SIGN_BIT = 0x80000000;
    private static final int SEED_FACTOR = 1103515245;
    private static final int SEED_STEP = 12345;

    private final State state;
    private final State[] saved;

    public LoadBalancer() {
        state = new State();
        saved = new State[SLOTS];
    }

    // ---- servers

    public int addServer(int weight, int capacity) throws IllegalArgumentException, IllegalStateException {
        requireRange(weight, 1, MAX_WEIGHT);
        requireRange(capacity, 1, MAX_CAPACITY);
        if (state.serverCount >= MAX_SERVERS) {
            throw new IllegalStateException("there are 10 servers");
        }
        return state.append(weight, capacity);
    }

    public int setWeight(int server, int weight) throws IndexOutOfBoundsException, IllegalArgumentException {
        Server changed = state.serverAt(server);
        requireRange(weight, 1, MAX_WEIGHT);
        int previous = changed.weight;
        changed.weight = weight;
        return previous;
    }

    public boolean setDraining(int server, boolean draining) throws IndexOutOfBoundsException {
        Server changed = state.serverAt(server);
        boolean previous = changed.draining;
        changed.draining = draining;
        return previous;
    }

    public boolean report(int server, boolean passed) throws IndexOutOfBoundsException {
        Server checked = state.serverAt(server);
        if (checked.healthy) {
            checked.checkWhileHealthy(passed, state.fall);
        } else {
            checked.checkWhileUnhealthy(passed, state.rise, state.time);
        }
        return checked.healthy;
    }

    public int servers() {
        return state.serverCount;
    }

    // ---- settings

    public void setThresholds(int rise, int fall) throws IllegalArgumentException {
        requireRange(rise, 1, MAX_THRESHOLD);
        requireRange(fall, 1, MAX_THRESHOLD);
        state.rise = rise;
        state.fall = fall;
    }

    public int setSlowStart(int window) throws IllegalArgumentException {
        requireRange(window, 0, MAX_WINDOW);
        int previous = state.window;
        state.window = window;
        return previous;
    }

    public int setCool(int cool) throws IllegalArgumentException {
        requireRange(cool, 1, MAX_COOL);
        int previous = state.cool;
        state.cool = cool;
        return previous;
    }

    public int setSticky(int duration) throws IllegalArgumentException {
        requireRange(duration, 0, MAX_DURATION);
        int previous = state.duration;
        state.duration = duration;
        if (duration == 0) {
            state.clients.forgetAll();
        }
        return previous;
    }

    public int setPolicy(int policy) throws IllegalArgumentException {
        requireRange(policy, ROUND_ROBIN, TWO_CHOICES);
        int previous = state.policy;
        state.policy = policy;
        state.forgetSelections();
        return previous;
    }

    public int setSeed(int seed) {
        int previous = state.seed;
        state.seed = seed;
        return previous;
    }

    // ---- time

    public int tick(int n) throws IllegalArgumentException {
        requireRange(n, 1, MAX_TICKS);
        // Between the ticks of one call nothing else happens, so looking at the breakers once, at the end, is enough.
        state.time += n;
        state.coolBreakers();
        return state.time;
    }

    // ---- connections

    public int preview(int client) {
        return state.serverFor(client);
    }

    public int open(int client) throws IllegalStateException {
        int server = state.serverFor(client);
        if (server == NONE) {
            state.rejections++;
            throw new IllegalStateException("no server is available, or 1000 connections were opened");
        }
        if (state.stickyServer(client) == NONE) {
            state.noteSelection(server);
        }
        return state.connect(client, server);
    }

    public int close(int connection, boolean good) throws IndexOutOfBoundsException, IllegalStateException {
        requireConnection(connection);
        if (!state.connections.live[connection]) {
            throw new IllegalStateException("the connection was closed already");
        }
        return state.disconnect(connection, good);
    }

    public int serverOf(int connection) throws IndexOutOfBoundsException {
        requireConnection(connection);
        return state.connections.server[connection];
    }

    // ---- queries

    public boolean isAvailable(int server) throws IndexOutOfBoundsException {
        return state.serverAt(server).accepts();
    }

    public int effectiveWeight(int server) throws IndexOutOfBoundsException {
        return state.weightNow(state.serverAt(server));
    }

    public int active(int server) throws IndexOutOfBoundsException {
        return state.serverAt(server).load;
    }

    public double utilization(int server) throws IndexOutOfBoundsException {
        Server asked = state.serverAt(server);
        return (double) asked.load / (double) asked.capacity;
    }

    public int breaker(int server) throws IndexOutOfBoundsException {
        return state.serverAt(server).breaker.position;
    }

    public int owner(int client) throws IllegalStateException {
        if (state.serverCount == 0) {
            throw new IllegalStateException("there are no servers");
        }
        return state.firstOnRing(client, false);
    }

    public int count(int what) throws IllegalArgumentException {
        switch (what) {
            case 0:
                return state.time;
            case 1:
                return state.totalLoad();
            case 2:
                return state.connections.opened;
            case 3:
                return state.rejections;
            case 4:
                return state.clients.size;
            default:
                throw new IllegalArgumentException("there is no such count");
        }
    }

    // ---- saving

    public void save(int slot) throws IllegalArgumentException {
        requireRange(slot, 0, SLOTS - 1);
        State target = saved[slot];
        if (target == null) {
            target = new State();
            saved[slot] = target;
        }
        target.copyFrom(state);
    }

    public void restore(int slot) throws IllegalArgumentException, IllegalStateException {
        requireRange(slot, 0, SLOTS - 1);
        State source = saved[slot];
        if (source == null) {
            throw new IllegalStateException("nothing was saved in the slot");
        }
        state.copyFrom(source);
    }

    // ---- checks and functions that several calls share

    private static void requireRange(int value, int least, int greatest) {
        if (value < least || value > greatest) {
            throw new IllegalArgumentException("an argument is out of range");
        }
    }

    private void requireConnection(int connection) {
        if (connection < 0 || connection >= state.connections.opened) {
            throw new IndexOutOfBoundsException("no connection with this number was opened");
        }
    }

    private static int mix(int x) {
        x ^= x >>> 16;
        x *= MIX_FACTOR;
        x ^= x >>> 16;
        x *= MIX_FACTOR;
        x ^= x >>> 16;
        return x;
    }

    private static boolean isBelowUnsigned(int a, int b) {
        return (a ^ SIGN_BIT) < (b ^ SIGN_BIT);
    }

    private static int nextSeed(int seed) {
        return seed * SEED_FACTOR + SEED_STEP;
    }

    private static final class Breaker {
        int position;
        /** When it became OPEN; has a meaning only while it is OPEN. */
        int openSince;
        /** The connection that was accepted since it became HALF_OPEN, or NONE; has a meaning only while HALF_OPEN. */
        int trial;
        int resultCount;
        /** The latest results, the newest in bit 0; a bit is 1 for a bad one. */
        int badBits;

        void shut() {
            position = CLOSED;
            resultCount = 0;
            badBits = 0;
        }

        void trip(int time) {
            position = OPEN;
            openSince = time;
        }

        void coolDown(int time, int cool) {
            if (position == OPEN && time - openSince >= cool) {
                position = HALF_OPEN;
                trial = NONE;
            }
        }

        boolean letsThrough() {
            return position == CLOSED || (position == HALF_OPEN && trial == NONE);
        }

        void noteBegin(int connection) {
            if (position == HALF_OPEN) {
                trial = connection;
            }
        }

        void noteEnd(int connection, boolean good, int time) {
            if (position == CLOSED) {
                addResult(good, time);
            } else if (position == HALF_OPEN && trial == connection) {
                endTrial(good, time);
            }
        }

        void addResult(boolean good, int time) {
            badBits = ((badBits << 1) | (good ? 0 : 1)) & ALL_RESULTS;
            if (resultCount < MAX_RESULTS) {
                resultCount++;
            }
            if (resultCount >= ENOUGH_RESULTS && 2 * Integer.bitCount(badBits) >= resultCount) {
                trip(time);
            }
        }

        void endTrial(boolean good, int time) {
            if (good) {
                shut();
            } else {
                trip(time);
            }
        }

        void copyFrom(Breaker other) {
            position = other.position;
            openSince = other.openSince;
            trial = other.trial;
            resultCount = other.resultCount;
            badBits = other.badBits;
        }
    }

    /** One server; it exists if its number is below State.serverCount. */
    private static final class Server {
        final Breaker breaker;
        int weight;
        int capacity;
        int load;
        int credit;
        boolean healthy;
        boolean draining;
        /** The checks in a row that speak against the present health; the other count of the document has no effect. */
        int streak;
        /** Whether it ever became healthy by checks. */
        boolean recovered;
        /** When it last became healthy by checks; has a meaning only if it ever did. */
        int recoveredAt;

        Server() {
            breaker = new Breaker();
        }

        /** Makes everything new, since a restore may have taken away another server that stood here. */
        void begin(int newWeight, int newCapacity) {
            weight = newWeight;
            capacity = newCapacity;
            load = 0;
            credit = 0;
            healthy = true;
            draining = false;
            streak = 0;
            recovered = false;
            breaker.shut();
        }

        void checkWhileHealthy(boolean passed, int fall) {
            streak = passed ? 0 : streak + 1;
            if (streak >= fall) {
                healthy = false;
                streak = 0;
            }
        }

        void checkWhileUnhealthy(boolean passed, int rise, int time) {
            streak = passed ? streak + 1 : 0;
            if (streak >= rise) {
                healthy = true;
                streak = 0;
                recovered = true;
                recoveredAt = time;
            }
        }

        boolean accepts() {
            return healthy && !draining && load < capacity && breaker.letsThrough();
        }

        /** How far the nearest of the points of this server, which has the given number, lies behind the start. */
        int ringDistance(int number, int start) {
            int first = POINT_STRIDE * number;
            int least = mix(first) - start;
            for (int k = 1; k < POINTS_PER_WEIGHT * weight; k++) {
                int distance = mix(first + k) - start;
                if (isBelowUnsigned(distance, least)) {
                    least = distance;
                }
            }
            return least;
        }

        void copyFrom(Server other) {
            weight = other.weight;
            capacity = other.capacity;
            load = other.load;
            credit = other.credit;
            healthy = other.healthy;
            draining = other.draining;
            streak = other.streak;
            recovered = other.recovered;
            recoveredAt = other.recoveredAt;
            breaker.copyFrom(other.breaker);
        }
    }

    /** All connections that were opened; a connection's number is its index. */
    private static final class Connections {
        final int[] server;
        final int[] openedAt;
        final boolean[] live;
        int opened;

        Connections() {
            server = new int[MAX_CONNECTIONS];
            openedAt = new int[MAX_CONNECTIONS];
            live = new boolean[MAX_CONNECTIONS];
        }

        boolean isFull() {
            return opened >= MAX_CONNECTIONS;
        }

        /** Only called while there is room. */
        int append(int itsServer, int time) {
            int connection = opened;
            server[connection] = itsServer;
            openedAt[connection] = time;
            live[connection] = true;
            opened = connection + 1;
            return connection;
        }

        void copyFrom(Connections other) {
            opened = other.opened;
            System.arraycopy(other.server, 0, server, 0, opened);
            System.arraycopy(other.openedAt, 0, openedAt, 0, opened);
            for (int i = 0; i < opened; i++) {
                live[i] = other.live[i];
            }
        }
    }

    /** The remembered clients, in no order that matters, each with its latest connection's server and time. */
    private static final class Clients {
        final int[] client;
        final int[] server;
        final int[] openedAt;
        int size;

        Clients() {
            client = new int[MAX_CLIENTS];
            server = new int[MAX_CLIENTS];
            openedAt = new int[MAX_CLIENTS];
        }

        int placeOf(int wanted) {
            for (int i = 0; i < size; i++) {
                if (client[i] == wanted) {
                    return i;
                }
            }
            return NONE;
        }

        void remember(int itself, int itsServer, int time) {
            int place = placeOf(itself);
            if (place == NONE) {
                place = newPlace();
            }
            client[place] = itself;
            server[place] = itsServer;
            openedAt[place] = time;
        }

        int newPlace() {
            if (size < MAX_CLIENTS) {
                size++;
                return size - 1;
            }
            return oldestPlace();
        }

        int oldestPlace() {
            int oldest = 0;
            for (int i = 1; i < size; i++) {
                if (isForgottenBefore(i, oldest)) {
                    oldest = i;
                }
            }
            return oldest;
        }

        boolean isForgottenBefore(int i, int j) {
            return openedAt[i] < openedAt[j] || (openedAt[i] == openedAt[j] && client[i] < client[j]);
        }

        void forgetAll() {
            size = 0;
        }

        void copyFrom(Clients other) {
            size = other.size;
            System.arraycopy(other.client, 0, client, 0, size);
            System.arraycopy(other.server, 0, server, 0, size);
            System.arraycopy(other.openedAt, 0, openedAt, 0, size);
        }
    }

    /** Everything that save() keeps. */
    private static final class State {
        final Server[] servers;
        final Connections connections;
        final Clients clients;
        int serverCount;
        int rise;
        int fall;
        int window;
        int cool;
        int duration;
        int policy;
        int lastSelected;
        int seed;
        int time;
        int rejections;

        State() {
            servers = new Server[MAX_SERVERS];
            for (int i = 0; i < MAX_SERVERS; i++) {
                servers[i] = new Server();
            }
            connections = new Connections();
            clients = new Clients();
            rise = 2;
            fall = 3;
            cool = 5;
            policy = ROUND_ROBIN;
            lastSelected = NONE;
            seed = 1;
        }

        Server serverAt(int number) {
            if (number < 0 || number >= serverCount) {
                throw new IndexOutOfBoundsException("there is no such server");
            }
            return servers[number];
        }

        /** Only called while there is room. */
        int append(int weight, int capacity) {
            int number = serverCount;
            servers[number].begin(weight, capacity);
            serverCount = number + 1;
            return number;
        }

        void forgetSelections() {
            lastSelected = NONE;
            for (int i = 0; i < serverCount; i++) {
                servers[i].credit = 0;
            }
        }

        void coolBreakers() {
            for (int i = 0; i < serverCount; i++) {
                servers[i].breaker.coolDown(time, cool);
            }
        }

        int totalLoad() {
            int total = 0;
            for (int i = 0; i < serverCount; i++) {
                total += servers[i].load;
            }
            return total;
        }

        int weightNow(Server server) {
            int elapsed = time - server.recoveredAt;
            if (window == 0 || !server.recovered || elapsed >= window) {
                return server.weight;
            }
            return Math.max(1, server.weight * (elapsed + 1) / window);
        }

        /** The server that a connection of the client would get now, or NONE; changes nothing. */
        int serverFor(int client) {
            if (connections.isFull()) {
                return NONE;
            }
            int sticky = stickyServer(client);
            return sticky != NONE ? sticky : selectByPolicy(client);
        }

        /** The available server to which the client sticks, or NONE. */
        int stickyServer(int client) {
            int place = clients.placeOf(client);
            if (place == NONE || time - clients.openedAt[place] >= duration) {
                return NONE;
            }
            int server = clients.server[place];
            return serverAt(server).accepts() ? server : NONE;
        }

        int selectByPolicy(int client) {
            switch (policy) {
                case ROUND_ROBIN:
                    return selectNext();
                case WEIGHTED:
                    return selectByCredit();
                case LEAST_CONNECTIONS:
                    return selectLeastLoaded();
                case HASH:
                    return firstOnRing(client, true);
                default:
                    return selectOfTwo();
            }
        }

        int selectNext() {
            int next = firstAvailableFrom(lastSelected + 1);
            return next != NONE ? next : firstAvailableFrom(0);
        }

        int firstAvailableFrom(int start) {
            for (int i = start; i < serverCount; i++) {
                if (serverAt(i).accepts()) {
                    return i;
                }
            }
            return NONE;
        }

        int selectByCredit() {
            int best = NONE;
            int bestCredit = 0;
            for (int i = 0; i < serverCount; i++) {
                Server server = servers[i];
                int credit = server.credit + weightNow(server);
                if (server.accepts() && (best == NONE || credit > bestCredit)) {
                    best = i;
                    bestCredit = credit;
                }
            }
            return best;
        }

        int selectLeastLoaded() {
            int best = NONE;
            for (int i = 0; i < serverCount; i++) {
                if (servers[i].accepts() && (best == NONE || isLessLoaded(servers[i], serverAt(best)))) {
                    best = i;
                }
            }
            return best;
        }

        /** Compares load / weight crosswise, so that the fractions stay exact. */
        boolean isLessLoaded(Server a, Server b) {
            return a.load * weightNow(b) < b.load * weightNow(a);
        }

        /**
         * The server whose point comes first in the walk round the ring from the client's position, or NONE. The
         * wrapped distance from there orders the points as the walk does, so they need not be sorted.
         */
        int firstOnRing(int client, boolean onlyAvailable) {
            int start = mix(client);
            int best = NONE;
            int bestDistance = 0;
            for (int i = 0; i < serverCount; i++) {
                if (!onlyAvailable || servers[i].accepts()) {
                    int distance = servers[i].ringDistance(i, start);
                    if (best == NONE || isBelowUnsigned(distance, bestDistance)) {
                        best = i;
                        bestDistance = distance;
                    }
                }
            }
            return best;
        }

        int selectOfTwo() {
            int available = availableCount();
            if (available == 0) {
                return NONE;
            }
            int firstSeed = nextSeed(seed);
            int secondSeed = nextSeed(firstSeed);
            int first = availableAt((firstSeed >>> 16) % available);
            int second = availableAt((secondSeed >>> 16) % available);
            return serverAt(second).load < serverAt(first).load ? second : first;
        }

        int availableCount() {
            int available = 0;
            for (int i = 0; i < serverCount; i++) {
                if (servers[i].accepts()) {
                    available++;
                }
            }
            return available;
        }

        /** The available server with the given index among the available ones, or NONE. */
        int availableAt(int index) {
            int left = index;
            for (int i = 0; i < serverCount; i++) {
                if (servers[i].accepts()) {
                    if (left == 0) {
                        return i;
                    }
                    left--;
                }
            }
            return NONE;
        }

        /** Changes what the policy keeps, after it selected a server and before the connection counts there. */
        void noteSelection(int selected) {
            switch (policy) {
                case ROUND_ROBIN:
                    lastSelected = selected;
                    break;
                case WEIGHTED:
                    moveCredits(selected);
                    break;
                case TWO_CHOICES:
                    seed = nextSeed(nextSeed(seed));
                    break;
                default:
                    break;
            }
        }

        void moveCredits(int selected) {
            int total = 0;
            for (int i = 0; i < serverCount; i++) {
                Server server = servers[i];
                if (server.accepts()) {
                    int weight = weightNow(server);
                    server.credit += weight;
                    total += weight;
                }
            }
            serverAt(selected).credit -= total;
        }

        int connect(int client, int number) {
            int connection = connections.append(number, time);
            Server server = serverAt(number);
            server.load++;
            server.breaker.noteBegin(connection);
            if (duration > 0) {
                clients.remember(client, number, time);
            }
            return connection;
        }

        /** Only called with an active connection. */
        int disconnect(int connection, boolean good) {
            Server server = serverAt(connections.server[connection]);
            connections.live[connection] = false;
            server.load--;
            server.breaker.noteEnd(connection, good, time);
            return time - connections.openedAt[connection];
        }

        void copyFrom(State other) {
            serverCount = other.serverCount;
            rise = other.rise;
            fall = other.fall;
            window = other.window;
            cool = other.cool;
            duration = other.duration;
            policy = other.policy;
            lastSelected = other.lastSelected;
            seed = other.seed;
            time = other.time;
            rejections = other.rejections;
            for (int i = 0; i < serverCount; i++) {
                servers[i].copyFrom(other.servers[i]);
            }
            connections.copyFrom(other.connections);
            clients.copyFrom(other.clients);
        }
    }
}
