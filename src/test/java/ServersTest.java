/** Promises 1 to 6: a new object, addServer, setWeight, setDraining, report, servers. */
public final class ServersTest {
    private static final Check check = new Check("ServersTest");

    public static void main(String[] args) {
        newObject();
        firstSettings();
        addServer();
        addServerWrong();
        addServerBeginsAnew();
        addServerHasNoCredit();
        setWeight();
        setWeightKeeps();
        setWeightMovesPoints();
        setDraining();
        report();
        reportCountsBeginAnew();
        reportWrong();
        check.end();
    }

    private static void newObject() {
        LoadBalancer x = new LoadBalancer();
        check.due("1: servers()", x.servers(), 0);
        for (int what = 0; what <= 4; what++) {
            check.due("1: count(" + what + ")", x.count(what), 0);
        }
        check.due("1: preview(1)", x.preview(1), LoadBalancer.NONE);
        check.dueState("1: restore(0)", () -> x.restore(0));
        check.dueState("1: restore(1)", () -> x.restore(1));
        check.dueState("1: owner(1)", () -> x.owner(1));
        check.dueIndex("1: serverOf(0)", () -> x.serverOf(0));
        check.dueIndex("1: active(0)", () -> x.active(0));
        check.dueState("1: open(1)", () -> x.open(1));
        check.due("1: count(3) after a rejection", x.count(3), 1);
    }

    private static void firstSettings() {
        LoadBalancer x = new LoadBalancer();
        check.due("1: first policy", x.setPolicy(LoadBalancer.HASH), LoadBalancer.ROUND_ROBIN);
        check.due("1: first window", x.setSlowStart(7), 0);
        check.due("1: first COOL", x.setCool(7), 5);
        check.due("1: first duration", x.setSticky(7), 0);
        check.due("1: first seed", x.setSeed(7), 1);
    }

    private static void addServer() {
        LoadBalancer x = new LoadBalancer();
        for (int i = 0; i < 10; i++) {
            check.due("2: addServer, the number", x.addServer(i + 1, 2 * i + 1), i);
            check.due("6: servers()", x.servers(), i + 1);
            check.due("2: its weight", x.effectiveWeight(i), i + 1);
            check.due("2: it is available", x.isAvailable(i), true);
            check.due("2: it has no connections", x.active(i), 0);
            check.due("2: its breaker is CLOSED", x.breaker(i), LoadBalancer.CLOSED);
        }
        check.dueState("2: addServer, an 11th", () -> x.addServer(1, 1));
        check.dueArgument("2: a wrong weight comes before the limit", () -> x.addServer(0, 1));
        check.dueArgument("2: a wrong capacity comes before the limit", () -> x.addServer(1, 0));
        check.due("6: servers() after the limit", x.servers(), 10);
    }

    private static void addServerWrong() {
        LoadBalancer x = new LoadBalancer();
        for (int weight : new int[] {0, 11, -1, Integer.MIN_VALUE, Integer.MAX_VALUE}) {
            check.dueArgument("2: addServer(" + weight + ", 1)", () -> x.addServer(weight, 1));
        }
        for (int capacity : new int[] {0, 21, -1, Integer.MIN_VALUE, Integer.MAX_VALUE}) {
            check.dueArgument("2: addServer(1, " + capacity + ")", () -> x.addServer(1, capacity));
        }
        check.due("6: servers() after wrong calls", x.servers(), 0);
        check.due("2: addServer(1, 1)", x.addServer(1, 1), 0);
        check.due("2: addServer(10, 20)", x.addServer(10, 20), 1);
        x.open(0);
        check.due("2: a capacity of 1 is full", x.isAvailable(0), false);
        for (int i = 0; i < 20; i++) {
            check.due("2: a capacity of 20 has room", Scenes.place(x, 0), 1);
        }
        check.dueState("2: a capacity of 20 is full", () -> x.open(0));
    }

    /** A server that is added where a restore took one away has nothing of the old one. */
    private static void addServerBeginsAnew() {
        LoadBalancer x = new LoadBalancer();
        x.save(0);
        x.addServer(7, 9);
        x.setPolicy(LoadBalancer.WEIGHTED);
        x.open(0);
        Scenes.tripBreaker(x);
        Scenes.recover(x, 0);
        x.report(0, false);
        x.report(0, false);
        x.setDraining(0, true);
        x.restore(0);
        x.setSlowStart(50);
        check.due("2: addServer after restore", x.addServer(2, 4), 0);
        check.due("2: not draining, CLOSED", x.isAvailable(0), true);
        check.due("2: no slow start", x.effectiveWeight(0), 2);
        check.due("2: no connections", x.active(0), 0);
        check.due("2: two checks may fail", x.report(0, false) && x.report(0, false), true);
        check.due("2: the third one may not", x.report(0, false), false);
    }

    private static void addServerHasNoCredit() {
        LoadBalancer x = Scenes.withServers(1);
        x.setPolicy(LoadBalancer.WEIGHTED);
        x.save(0);
        x.addServer(1, 20);
        x.open(0);
        x.restore(0);
        x.addServer(1, 20);
        check.due("2: a new server's credit is 0", Scenes.placeMany(x, 2), "01");
        x.setPolicy(LoadBalancer.WEIGHTED);
        x.addServer(1, 20);
        x.setWeight(2, 2);
        // Credits 1 1 2; they would be 2 2 2 if the older servers had begun with 1.
        check.due("2: and so are the others' after setPolicy", Scenes.placeMany(x, 1), "2");
    }

    private static void setWeight() {
        LoadBalancer x = Scenes.withServers(2);
        check.due("3: setWeight(0, 10)", x.setWeight(0, 10), 1);
        check.due("3: setWeight(0, 4)", x.setWeight(0, 4), 10);
        check.due("3: setWeight(0, 4) again", x.setWeight(0, 4), 4);
        check.due("3: effectiveWeight(0)", x.effectiveWeight(0), 4);
        check.due("3: effectiveWeight(1)", x.effectiveWeight(1), 1);
        check.dueIndex("3: setWeight(2, 1)", () -> x.setWeight(2, 1));
        check.dueIndex("3: setWeight(-1, 1)", () -> x.setWeight(-1, 1));
        check.dueIndex("3: the server is checked first", () -> x.setWeight(2, 11));
        for (int weight : new int[] {0, 11, -5, Integer.MIN_VALUE, Integer.MAX_VALUE}) {
            check.dueArgument("3: setWeight(0, " + weight + ")", () -> x.setWeight(0, weight));
        }
        check.due("3: the weight after wrong calls", x.effectiveWeight(0), 4);
    }

    private static void setWeightKeeps() {
        LoadBalancer x = Scenes.withServers(2);
        x.setPolicy(LoadBalancer.WEIGHTED);
        x.setWeight(0, 3);
        check.due("3: weights 3 and 1", Scenes.placeMany(x, 1), "0");
        // The credits are now -1 and 1: with equal weights server 1 comes next, which it would not from 0 and 0.
        x.setWeight(0, 1);
        check.due("3: the credit stays", Scenes.placeMany(x, 1), "1");
        check.due("3: the connections stay", x.active(0), 1);
        x.setDraining(1, true);
        Scenes.tripBreaker(x);
        x.setWeight(0, 9);
        check.due("3: the breaker stays", x.breaker(0), LoadBalancer.OPEN);
    }

    private static void setWeightMovesPoints() {
        LoadBalancer x = Scenes.withServers(2);
        int before = clientsOfServer0(x);
        x.setWeight(0, 10);
        int between = clientsOfServer0(x);
        x.setWeight(0, 1);
        check.due("3: more points, more clients", between > before, true);
        check.due("3: the points of weight 1 again", clientsOfServer0(x), before);
    }

    private static int clientsOfServer0(LoadBalancer x) {
        int clients = 0;
        for (int client = 0; client < 100; client++) {
            if (x.owner(client) == 0) {
                clients++;
            }
        }
        return clients;
    }

    private static void setDraining() {
        LoadBalancer x = Scenes.withServers(2);
        x.open(0);
        check.due("4: setDraining(0, true)", x.setDraining(0, true), false);
        check.due("4: setDraining(0, true) again", x.setDraining(0, true), true);
        check.due("4: isAvailable(0)", x.isAvailable(0), false);
        check.due("4: isAvailable(1)", x.isAvailable(1), true);
        check.due("4: the connection goes on", x.active(0), 1);
        check.due("4: it can be closed", x.close(0, true), 0);
        check.due("4: no connection comes", Scenes.placeMany(x, 2), "11");
        check.due("4: setDraining(0, false)", x.setDraining(0, false), true);
        check.due("4: setDraining(0, false) again", x.setDraining(0, false), false);
        check.due("4: isAvailable(0) again", x.isAvailable(0), true);
        for (int server : new int[] {-1, 2, 10, Integer.MIN_VALUE, Integer.MAX_VALUE}) {
            check.dueIndex("4: setDraining(" + server + ", true)", () -> x.setDraining(server, true));
        }
    }

    private static void report() {
        LoadBalancer x = Scenes.withServers(2);
        check.due("5: 1st failed check", x.report(0, false), true);
        check.due("5: 2nd failed check", x.report(0, false), true);
        check.due("5: a check of another server", x.report(1, false), true);
        check.due("5: 3rd failed check", x.report(0, false), false);
        check.due("5: isAvailable(0)", x.isAvailable(0), false);
        check.due("5: isAvailable(1)", x.isAvailable(1), true);
        check.due("5: 1st successful check", x.report(0, true), false);
        check.due("5: a failed one in between", x.report(0, false), false);
        check.due("5: 1st successful check again", x.report(0, true), false);
        check.due("5: 2nd successful check", x.report(0, true), true);
        check.due("5: isAvailable(0) again", x.isAvailable(0), true);
    }

    private static void reportCountsBeginAnew() {
        LoadBalancer x = Scenes.withServers(1);
        x.report(0, false);
        x.report(0, false);
        check.due("5: a successful check in between", x.report(0, true), true);
        check.due("5: two failed ones", x.report(0, false) && x.report(0, false), true);
        check.due("5: successful ones while healthy", x.report(0, true) && x.report(0, true), true);
        Scenes.fail(x, 0);
        check.due("5: they do not count for RISE", x.report(0, true), false);
        x.report(0, false);
        for (int i = 0; i < 5; i++) {
            check.due("5: failed ones while unhealthy", x.report(0, false), false);
        }
        x.report(0, true);
        check.due("5: healthy again", x.report(0, true), true);
        check.due("5: they do not count for FALL", x.report(0, false) && x.report(0, false), true);
        check.due("5: three do", x.report(0, false), false);
    }

    private static void reportWrong() {
        LoadBalancer x = Scenes.withServers(2);
        for (int server : new int[] {-1, 2, 10, Integer.MIN_VALUE, Integer.MAX_VALUE}) {
            check.dueIndex("5: report(" + server + ", true)", () -> x.report(server, true));
            check.dueIndex("5: report(" + server + ", false)", () -> x.report(server, false));
        }
    }
}
