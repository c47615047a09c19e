import java.util.function.IntConsumer;

/** The boundary cases of promises 1 to 13: a test for each sentence of their sections. */
public final class Promises1To13Test {
    private static final Check check = new Check("Promises1To13Test");
    private static final int LOW = Integer.MIN_VALUE;
    private static final int HIGH = Integer.MAX_VALUE;

    public static void main(String[] args) {
        aNewObject();
        addServerRanges();
        addServerFull();
        addServerReturns();
        addServerBeginsAnew();
        setWeightKeeps();
        setWeightMovesPoints();
        setWeightReturns();
        setWeightWrong();
        setDrainingLeavesConnections();
        setDrainingReturns();
        setDrainingWrong();
        reportReturns();
        reportWrong();
        servers();
        thresholdRanges();
        countAtItsNewFall();
        countAtItsNewRise();
        countsStay();
        slowStartRange();
        coolRange();
        coolWhileOpen();
        stickyRange();
        policyRange();
        policyForgets();
        seeds();
        tickRange();
        eachTick();
        check.end();
    }

    /** All values must be refused with an IllegalArgumentException. */
    private static void refused(String call, IntConsumer code, int... values) {
        for (int value : values) {
            check.dueArgument(call.replace("?", "" + value), () -> code.accept(value));
        }
    }

    /** All numbers must be refused with an IndexOutOfBoundsException. */
    private static void noSuch(String call, IntConsumer code, int... numbers) {
        for (int number : numbers) {
            check.dueIndex(call.replace("?", "" + number), () -> code.accept(number));
        }
    }

    private static void aNewObject() {
        check.sentence("No servers, the policy ROUND_ROBIN, time 0, nothing saved.");
        LoadBalancer x = new LoadBalancer();
        check.due("servers()", x.servers(), 0);
        check.dueIndex("active(0)", () -> x.active(0));
        check.due("preview(0)", x.preview(0), LoadBalancer.NONE);
        for (int what = 0; what <= 4; what++) {
            check.due("count(" + what + ")", x.count(what), 0);
        }
        check.dueState("restore(0)", () -> x.restore(0));
        check.dueState("restore(1)", () -> x.restore(1));
        check.due("setPolicy(4)", x.setPolicy(4), LoadBalancer.ROUND_ROBIN);
        LoadBalancer used = Scenes.withServers(2);
        used.save(0);
        LoadBalancer other = new LoadBalancer();
        check.due("another object has its own servers", other.servers(), 0);
        check.dueState("another object has its own slots", () -> other.restore(0));
    }

    private static void addServerRanges() {
        check.sentence("Throws `IllegalArgumentException` if weight or capacity is out of range");
        LoadBalancer x = new LoadBalancer();
        refused("addServer(?, 1)", w -> x.addServer(w, 1), LOW, -1, 0, 11, HIGH);
        refused("addServer(?, 20)", w -> x.addServer(w, 20), LOW, -1, 0, 11, HIGH);
        refused("addServer(1, ?)", c -> x.addServer(1, c), LOW, -1, 0, 21, HIGH);
        refused("addServer(10, ?)", c -> x.addServer(10, c), LOW, -1, 0, 21, HIGH);
        refused("addServer(?, ?)", v -> x.addServer(v, v), LOW, -1, 0, 21, HIGH);
        check.due("servers()", x.servers(), 0);
        check.due("addServer(1, 1)", x.addServer(1, 1), 0);
        check.due("addServer(1, 20)", x.addServer(1, 20), 1);
        check.due("addServer(10, 1)", x.addServer(10, 1), 2);
        check.due("addServer(10, 20)", x.addServer(10, 20), 3);
        refused("addServer(1, ?), a weight of 11 is none, a capacity of 11 is one", w -> x.addServer(w, 11), 11);
        check.due("addServer(1, 11)", x.addServer(1, 11), 4);
    }

    private static void addServerFull() {
        check.sentence("Throws `IllegalStateException` if there are 10 servers");
        LoadBalancer x = Scenes.withServers(9);
        check.due("with 9 servers", x.addServer(10, 20), 9);
        for (int i = 0; i < 3; i++) {
            check.dueState("with 10 servers", () -> x.addServer(1, 1));
        }
        refused("with 10 servers, addServer(?, 1)", w -> x.addServer(w, 1), 0, 11);
        refused("with 10 servers, addServer(1, ?)", c -> x.addServer(1, c), 0, 21);
        check.due("servers()", x.servers(), 10);
        check.due("server 9 stays", x.effectiveWeight(9), 10);
    }

    private static void addServerReturns() {
        check.sentence("Returns its number.");
        LoadBalancer x = new LoadBalancer();
        for (int i = 0; i < 10; i++) {
            refused("addServer(?, 1)", w -> x.addServer(w, 1), 0);
            check.due("addServer", x.addServer(1 + i, 1), i);
        }
    }

    /** Where a restore took servers away, the new ones have nothing of them. */
    private static void addServerBeginsAnew() {
        check.sentence("Adds a server.");
        for (int policy = 0; policy <= 4; policy++) {
            for (int probe = 0; probe < Probes.COUNT; probe++) {
                LoadBalancer x = new LoadBalancer();
                x.save(0);
                Probes.makeOtherwiseBusy(x);
                x.restore(0);
                Probes.makeBusy(x, policy);
                check.due("policy " + policy + ", probe " + probe, Probes.run(probe, x),
                    Probes.run(probe, Probes.busy(policy)));
            }
        }
    }

    private static void setWeightKeeps() {
        check.sentence("Its active connections, credit and breaker stay");
        LoadBalancer x = Scenes.withServers(2);
        x.setPolicy(LoadBalancer.WEIGHTED);
        x.setWeight(0, 10);
        // 10 1 -> -1 1.
        check.due("weights 10 and 1", Scenes.place(x, 0), 0);
        x.setWeight(0, 2);
        // 1 2 -> 1 -1; from credits of 0 it would be server 0.
        check.due("the credit stays", Scenes.place(x, 0), 1);
        check.due("the connections stay", x.active(0), 1);
        LoadBalancer y = Scenes.withServers(1);
        for (int i = 0; i < 3; i++) {
            Scenes.useOnce(y, false);
        }
        y.setWeight(0, 10);
        Scenes.useOnce(y, false);
        check.due("three results stay", y.breaker(0), LoadBalancer.OPEN);
        y.tick(4);
        y.setWeight(0, 1);
        check.due("OPEN stays", y.breaker(0), LoadBalancer.OPEN);
        y.tick(1);
        check.due("OPEN since the same time", y.breaker(0), LoadBalancer.HALF_OPEN);
        int trial = y.open(0);
        y.setWeight(0, 5);
        check.due("HALF_OPEN with its connection stays", y.isAvailable(0), false);
        y.close(trial, true);
        check.due("its end counts", y.breaker(0), LoadBalancer.CLOSED);
        y.setSlowStart(10);
        Scenes.recover(y, 0);
        y.tick(4);
        y.setWeight(0, 10);
        check.due("the slow start stays, 10 * 5 / 10", y.effectiveWeight(0), 5);
    }

    private static void setWeightMovesPoints() {
        check.sentence("its points are those of the new weight.");
        LoadBalancer x = Scenes.withServers(2);
        x.setPolicy(LoadBalancer.HASH);
        for (int weight : new int[] {10, 9, 2, 1, 10}) {
            x.setWeight(0, weight);
            Ring ring = new Ring(weight, 1);
            for (int client = 0; client < 40; client++) {
                check.due("weight " + weight + ", owner(" + client + ")", x.owner(client), ring.walk(client, -1));
            }
        }
    }

    private static void setWeightReturns() {
        check.sentence("Returns the previous weight.");
        LoadBalancer x = Scenes.withServers(2);
        check.due("setWeight(1, 10)", x.setWeight(1, 10), 1);
        check.due("setWeight(1, 10) again", x.setWeight(1, 10), 10);
        check.due("setWeight(1, 1)", x.setWeight(1, 1), 10);
        check.due("setWeight(0, 10)", x.setWeight(0, 10), 1);
        x.setSlowStart(50);
        Scenes.recover(x, 0);
        check.due("not the effective one", x.setWeight(0, 3), 10);
    }

    private static void setWeightWrong() {
        check.sentence("Throws `IllegalArgumentException` if weight is not 1 to 10");
        LoadBalancer x = Scenes.withServers(2);
        x.setWeight(1, 7);
        refused("setWeight(1, ?)", w -> x.setWeight(1, w), LOW, -1, 0, 11, HIGH);
        check.due("the weight stays", x.effectiveWeight(1), 7);
        check.sentence("Throws `IndexOutOfBoundsException` if there is no such server");
        noSuch("setWeight(?, 1)", s -> x.setWeight(s, 1), LOW, -1, 2, 9, 10, HIGH);
        noSuch("setWeight(?, 0)", s -> x.setWeight(s, 0), LOW, -1, 2, HIGH);
        noSuch("setWeight(?, 11)", s -> x.setWeight(s, 11), LOW, -1, 2, HIGH);
        LoadBalancer empty = new LoadBalancer();
        noSuch("no servers, setWeight(?, 1)", s -> empty.setWeight(s, 1), -1, 0);
        LoadBalancer full = Scenes.withServers(10);
        check.due("setWeight(9, 10)", full.setWeight(9, 10), 1);
        noSuch("ten servers, setWeight(?, 1)", s -> full.setWeight(s, 1), -1, 10);
    }

    private static void setDrainingLeavesConnections() {
        check.sentence("Active connections are not affected.");
        LoadBalancer x = Scenes.withServers(1);
        x.open(0);
        x.open(0);
        x.tick(2);
        x.setDraining(0, true);
        check.due("active(0)", x.active(0), 2);
        check.due("close", x.close(0, true), 2);
        x.setDraining(0, false);
        check.due("active(0)", x.active(0), 1);
        drainingAndBack();
    }

    /** A draining that ends at once leaves nothing behind. */
    private static void drainingAndBack() {
        for (int policy = 0; policy <= 4; policy++) {
            for (int probe = 0; probe < Probes.COUNT; probe++) {
                LoadBalancer x = Probes.busy(policy);
                for (int server = 0; server < 9; server++) {
                    x.setDraining(server, true);
                    x.setDraining(server, false);
                }
                check.due("policy " + policy + ", probe " + probe, Probes.run(probe, x),
                    Probes.run(probe, Probes.busy(policy)));
            }
        }
    }

    private static void setDrainingReturns() {
        check.sentence("Returns whether it was draining before.");
        LoadBalancer x = Scenes.withServers(2);
        check.due("setDraining(1, false), at first", x.setDraining(1, false), false);
        check.due("setDraining(1, true)", x.setDraining(1, true), false);
        check.due("setDraining(1, true) again", x.setDraining(1, true), true);
        check.due("the other server", x.setDraining(0, false), false);
        check.due("setDraining(1, false)", x.setDraining(1, false), true);
        check.due("setDraining(1, false) again", x.setDraining(1, false), false);
    }

    private static void setDrainingWrong() {
        check.sentence("Throws `IndexOutOfBoundsException` if there is no such server");
        noSuchServer("setDraining(?, true)", (x, s) -> x.setDraining(s, true));
        noSuchServer("setDraining(?, false)", (x, s) -> x.setDraining(s, false));
    }

    /** A call with the number of a server. */
    private interface ServerCall {
        void run(LoadBalancer x, int server);
    }

    /** With none, one and ten servers: the last number that is a server's and the first ones that are not. */
    private static void noSuchServer(String text, ServerCall call) {
        for (int servers : new int[] {0, 1, 10}) {
            LoadBalancer x = Scenes.withServers(servers);
            noSuch(servers + " servers, " + text, s -> call.run(x, s), LOW, -1, servers, servers + 1, HIGH);
            if (servers > 0) {
                call.run(x, 0);
                call.run(x, servers - 1);
            }
        }
    }

    private static void reportReturns() {
        check.sentence("Returns whether the server is healthy then.");
        LoadBalancer x = Scenes.withServers(1);
        x.setThresholds(1, 1);
        for (int i = 0; i < 3; i++) {
            check.due("a failed check, the first that counts", x.report(0, false), false);
            check.due("isAvailable(0)", x.isAvailable(0), false);
            check.due("a successful check, the first that counts", x.report(0, true), true);
            check.due("isAvailable(0)", x.isAvailable(0), true);
        }
    }

    private static void reportWrong() {
        check.sentence("Throws `IndexOutOfBoundsException` if there is no such server");
        noSuchServer("report(?, true)", (x, s) -> x.report(s, true));
        noSuchServer("report(?, false)", (x, s) -> x.report(s, false));
    }

    private static void servers() {
        check.sentence("Returns the number of servers.");
        LoadBalancer x = new LoadBalancer();
        for (int i = 0; i <= 10; i++) {
            check.due("servers()", x.servers(), i);
            if (i < 10) {
                x.addServer(1, 1);
            }
        }
    }

    private static void thresholdRanges() {
        check.sentence("Throws `IllegalArgumentException` if rise or fall is out of range");
        LoadBalancer x = Scenes.withServers(1);
        refused("setThresholds(?, 9)", v -> x.setThresholds(v, 9), LOW, -1, 0, 10, HIGH);
        refused("setThresholds(9, ?)", v -> x.setThresholds(9, v), LOW, -1, 0, 10, HIGH);
        refused("setThresholds(?, ?)", v -> x.setThresholds(v, v), LOW, 0, 10, HIGH);
        check.due("FALL stays 3, RISE 2", untilChange(x, false) + " " + untilChange(x, true), "3 2");
        x.setThresholds(9, 1);
        check.due("FALL 1, RISE 9", untilChange(x, false) + " " + untilChange(x, true), "1 9");
        x.setThresholds(1, 9);
        check.due("FALL 9, RISE 1", untilChange(x, false) + " " + untilChange(x, true), "9 1");
    }

    /** How many checks with this result change the health of server 0, at most 20. */
    private static int untilChange(LoadBalancer x, boolean passed) {
        for (int i = 1; i <= 20; i++) {
            if (x.report(0, passed) == passed) {
                return i;
            }
        }
        return 0;
    }

    private static void countAtItsNewFall() {
        check.sentence("a count that is already greater than or equal to its new limit takes effect at the next report that "
            + "would increase it.");
        for (int count = 1; count <= 8; count++) {
            for (int fall = 1; fall <= count; fall++) {
                LoadBalancer x = Scenes.withServers(1);
                x.setThresholds(1, 9);
                reports(x, count, false);
                x.setThresholds(1, fall);
                check.due(count + " failed checks, FALL " + fall + ", healthy still", x.isAvailable(0), true);
                check.due(count + " failed checks, FALL " + fall + ", the next one", x.report(0, false), false);
            }
        }
        LoadBalancer x = Scenes.withServers(1);
        x.setThresholds(1, 9);
        reports(x, 8, false);
        x.setThresholds(1, 2);
        check.due("a successful one does not increase it", x.report(0, true), true);
        check.due("it is 0 then", x.report(0, false), true);
        check.due("and 2 then", x.report(0, false), false);
    }

    private static void countAtItsNewRise() {
        for (int count = 1; count <= 8; count++) {
            for (int rise = 1; rise <= count; rise++) {
                LoadBalancer x = Scenes.withServers(1);
                x.setThresholds(9, 1);
                x.report(0, false);
                reports(x, count, true);
                x.setThresholds(rise, 1);
                check.due(count + " successful checks, RISE " + rise + ", unhealthy still", x.isAvailable(0), false);
                check.due(count + " successful checks, RISE " + rise + ", the next one", x.report(0, true), true);
            }
        }
        LoadBalancer x = Scenes.withServers(1);
        x.setThresholds(9, 1);
        x.report(0, false);
        reports(x, 8, true);
        x.setThresholds(2, 1);
        check.due("a failed one does not increase it", x.report(0, false), false);
        check.due("it is 0 then", x.report(0, true), false);
        check.due("and 2 then", x.report(0, true), true);
    }

    private static void reports(LoadBalancer x, int count, boolean passed) {
        for (int i = 0; i < count; i++) {
            x.report(0, passed);
        }
    }

    private static void countsStay() {
        check.sentence("The counts of checks stay");
        LoadBalancer x = Scenes.withServers(1);
        x.setThresholds(9, 3);
        reports(x, 2, false);
        x.setThresholds(9, 4);
        check.due("3 of 4 failed checks", x.report(0, false), true);
        x.setThresholds(9, 4);
        check.due("4 of 4 failed checks", x.report(0, false), false);
        reports(x, 7, true);
        x.setThresholds(9, 1);
        check.due("8 of 9 successful checks", x.report(0, true), false);
        check.due("9 of 9 successful checks", x.report(0, true), true);
    }

    private static void slowStartRange() {
        check.sentence("Throws `IllegalArgumentException` if window is not 0 to 50");
        LoadBalancer x = Scenes.withServers(1);
        check.due("setSlowStart(0)", x.setSlowStart(0), 0);
        check.due("setSlowStart(50)", x.setSlowStart(50), 0);
        refused("setSlowStart(?)", x::setSlowStart, LOW, -1, 51, HIGH);
        check.sentence("Returns the previous window.");
        check.due("setSlowStart(1)", x.setSlowStart(1), 50);
        check.due("setSlowStart(0)", x.setSlowStart(0), 1);
        check.due("setSlowStart(0) again", x.setSlowStart(0), 0);
        x.setWeight(0, 10);
        Scenes.recover(x, 0);
        x.tick(20);
        x.setSlowStart(20);
        check.due("20 ticks ago, W 20", x.effectiveWeight(0), 10);
        x.setSlowStart(21);
        check.due("20 ticks ago, W 21", x.effectiveWeight(0), 10);
        x.setSlowStart(30);
        check.due("20 ticks ago, W 30", x.effectiveWeight(0), 7);
    }

    private static void coolRange() {
        check.sentence("Throws `IllegalArgumentException` if cool is not 1 to 50");
        LoadBalancer x = Scenes.withServers(1);
        check.due("setCool(1)", x.setCool(1), 5);
        check.due("setCool(50)", x.setCool(50), 1);
        refused("setCool(?)", x::setCool, LOW, -1, 0, 51, HIGH);
        check.sentence("Returns the previous value.");
        check.due("setCool(49)", x.setCool(49), 50);
        check.due("setCool(49) again", x.setCool(49), 49);
    }

    private static void coolWhileOpen() {
        check.sentence("It applies to breakers that are OPEN, too; a breaker that has been OPEN for COOL ticks or more "
            + "becomes HALF_OPEN in the next tick.");
        for (int cool = 1; cool <= 6; cool++) {
            LoadBalancer x = Scenes.withServers(1);
            x.setCool(50);
            Scenes.tripBreaker(x);
            x.tick(4);
            x.setCool(cool);
            check.due("4 ticks, COOL " + cool + ", at once", x.breaker(0), LoadBalancer.OPEN);
            check.due("4 ticks, COOL " + cool + ", not available", x.isAvailable(0), false);
            x.tick(1);
            check.due("5 ticks, COOL " + cool, x.breaker(0), cool <= 5 ? LoadBalancer.HALF_OPEN : LoadBalancer.OPEN);
            x.tick(1);
            check.due("6 ticks, COOL " + cool, x.breaker(0), LoadBalancer.HALF_OPEN);
            x.setCool(50);
            x.tick(1);
            check.due("HALF_OPEN stays with a longer COOL", x.breaker(0), LoadBalancer.HALF_OPEN);
        }
        LoadBalancer x = Scenes.withServers(1);
        Scenes.tripBreaker(x);
        x.tick(4);
        x.setCool(50);
        x.tick(45);
        check.due("49 ticks, COOL 50", x.breaker(0), LoadBalancer.OPEN);
        x.tick(1);
        check.due("50 ticks, COOL 50", x.breaker(0), LoadBalancer.HALF_OPEN);
    }

    private static void stickyRange() {
        check.sentence("Throws `IllegalArgumentException` if duration is not 0 to 100");
        LoadBalancer x = Scenes.withServers(2);
        check.due("setSticky(0)", x.setSticky(0), 0);
        check.due("setSticky(100)", x.setSticky(100), 0);
        x.open(7);
        refused("setSticky(?)", x::setSticky, LOW, -1, 101, HIGH);
        check.due("nobody is forgotten", x.count(4), 1);
        check.sentence("Returns the previous duration.");
        check.due("setSticky(1)", x.setSticky(1), 100);
        check.due("a shorter one forgets nobody", x.count(4), 1);
        check.due("setSticky(1) again", x.setSticky(1), 1);
        check.due("setSticky(0)", x.setSticky(0), 1);
        check.due("0 forgets all", x.count(4), 0);
    }

    private static void policyRange() {
        check.sentence("Throws `IllegalArgumentException` if there is no such policy");
        LoadBalancer x = Scenes.withServers(2);
        check.due("setPolicy(4)", x.setPolicy(4), 0);
        refused("setPolicy(?)", x::setPolicy, LOW, -1, 5, HIGH);
        check.sentence("Returns the previous policy.");
        for (int policy : new int[] {0, 1, 2, 3}) {
            check.due("setPolicy(" + policy + ")", x.setPolicy(policy), policy == 0 ? 4 : policy - 1);
        }
        check.due("setPolicy(3) again", x.setPolicy(3), 3);
    }

    private static void policyForgets() {
        check.sentence("Changes the policy, also to the one that is set already. All credits become 0, and no server was "
            + "selected last; the seed stays.");
        LoadBalancer x = Scenes.withServers(3);
        check.due("round robin", Scenes.placeMany(x, 2), "01");
        refused("setPolicy(?), which is refused", x::setPolicy, 5);
        check.due("goes on", x.preview(0), 2);
        x.setPolicy(0);
        check.due("begins anew with the same policy", Scenes.placeMany(x, 2), "01");
        x.setPolicy(1);
        x.setPolicy(0);
        check.due("begins anew after another policy", x.preview(0), 0);
        for (int between = 0; between <= 4; between++) {
            x.setPolicy(1);
            check.due("weighted", Scenes.placeMany(x, 2), "01");
            x.setPolicy(between);
            x.setPolicy(1);
            check.due("credits of 0 after policy " + between, x.preview(0), 0);
        }
        x.setDraining(1, true);
        x.setPolicy(1);
        x.open(0);
        x.setDraining(0, true);
        x.setPolicy(1);
        x.setDraining(0, false);
        check.due("also of servers that are not available", x.preview(0), 0);
        x.addServer(1, 20);
        x.setWeight(3, 2);
        // 1 1 2 without server 1: had the others more than nothing, server 0 would be as good.
        check.due("0 as that of a new server", x.preview(0), 3);
        x.setSeed(-77);
        for (int policy = 0; policy <= 4; policy++) {
            x.setPolicy(policy);
        }
        check.due("the seed stays", x.setSeed(1), -77);
    }

    private static void seeds() {
        check.sentence("Sets the seed; returns the previous one.");
        LoadBalancer x = Scenes.withServers(1);
        int previous = 1;
        for (int seed : new int[] {LOW, LOW + 1, -1, 0, 1, HIGH - 1, HIGH, HIGH}) {
            check.due("setSeed(" + seed + ")", x.setSeed(seed), previous);
            previous = seed;
        }
        x.setPolicy(LoadBalancer.TWO_CHOICES);
        x.preview(0);
        check.due("after a preview", x.setSeed(HIGH), HIGH);
        x.open(0);
        // Worked out apart: two steps from 2147483647, each cut to 32 bits.
        check.due("after two draws from the greatest int", x.setSeed(LOW), -1858503659);
        x.open(0);
        check.due("after two draws from the smallest int", x.setSeed(0), 1406932606);
    }

    private static void tickRange() {
        check.sentence("Throws `IllegalArgumentException` if n is out of range");
        LoadBalancer x = new LoadBalancer();
        refused("tick(?)", x::tick, LOW, -1, 0, 201, HIGH);
        check.due("the time stays", x.count(0), 0);
        check.sentence("Returns the time.");
        check.due("tick(1)", x.tick(1), 1);
        check.due("tick(200)", x.tick(200), 201);
        check.due("tick(199)", x.tick(199), 400);
        for (int i = 1; i <= 500; i++) {
            check.due("tick(200), " + i + " times", x.tick(200), 400 + 200 * i);
        }
    }

    private static void eachTick() {
        check.sentence("In each tick the time increases by 1; then breakers can become HALF_OPEN.");
        for (int n : new int[] {1, 4, 5, 6, 200}) {
            LoadBalancer x = Scenes.withServers(1);
            Scenes.tripBreaker(x);
            x.tick(n);
            check.due("tick(" + n + ")", x.breaker(0), n < 5 ? LoadBalancer.OPEN : LoadBalancer.HALF_OPEN);
            check.due("count(0)", x.count(0), n);
        }
        LoadBalancer x = Scenes.withServers(10);
        for (int server = 0; server < 10; server += 9) {
            Scenes.drainAllBut(x, server, true);
            Scenes.tripBreaker(x);
            Scenes.drainAllBut(x, server, false);
            x.tick(1);
        }
        x.tick(3);
        check.due("the first server's, 5 ticks", x.breaker(0), LoadBalancer.HALF_OPEN);
        check.due("the last server's, 4 ticks", x.breaker(9), LoadBalancer.OPEN);
        x.tick(1);
        check.due("the last server's, 5 ticks", x.breaker(9), LoadBalancer.HALF_OPEN);
        check.due("another server's", x.breaker(4), LoadBalancer.CLOSED);
    }
}
