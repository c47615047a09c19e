import java.util.function.Consumer;
import java.util.function.Supplier;

/**
 * A refused call changes nothing: a balancer that refused one and its twin that was never asked are put before the same
 * probes. And of several exceptions the first one is thrown.
 */
public final class RefusedCallsTest {
    private static final Check check = new Check("RefusedCallsTest");
    private static final int LOW = Integer.MIN_VALUE;
    private static final int HIGH = Integer.MAX_VALUE;

    private final String scene;
    private final Supplier<LoadBalancer> maker;
    /** What is done before the probes: where no server is available, they could see little. */
    private final Consumer<LoadBalancer> reviver;
    private final String[] due = new String[Probes.COUNT + 1];

    private RefusedCallsTest(String scene, Supplier<LoadBalancer> maker, Consumer<LoadBalancer> reviver) {
        this.scene = scene;
        this.maker = maker;
        this.reviver = reviver;
        for (int probe = 0; probe < due.length; probe++) {
            due[probe] = probed(probe, maker.get());
        }
    }

    public static void main(String[] args) {
        firstThatApplies();
        check.sentence("A call that throws an exception changes nothing, except that open() counts a rejection.");
        for (int policy = 0; policy <= 4; policy++) {
            withPolicy(policy);
        }
        new RefusedCallsTest("a new object", LoadBalancer::new, x -> { }).newObject();
        check.end();
    }

    private static void withPolicy(int policy) {
        String name = "policy " + policy;
        new RefusedCallsTest(name, () -> savedIn0(policy), x -> { }).busyBalancer();
        new RefusedCallsTest(name + ", draining", () -> allDraining(policy), RefusedCallsTest::endDraining).openRefused();
        new RefusedCallsTest(name + ", unhealthy", () -> allUnhealthy(policy), RefusedCallsTest::heal).openRefused();
        new RefusedCallsTest(name + ", full", () -> full(policy), x -> endLatest(x, 3)).openRefused();
        new RefusedCallsTest(name + ", OPEN", () -> tripped(policy, 0), x -> x.tick(5)).openRefused();
        new RefusedCallsTest(name + ", HALF_OPEN", () -> tripped(policy, 5), x -> endLatest(x, 2)).openRefused();
        new RefusedCallsTest(name + ", 1000 opened", () -> used(policy), x -> { }).openRefused();
    }

    private static void endDraining(LoadBalancer x) {
        Scenes.drainAllBut(x, LoadBalancer.NONE, false);
    }

    private static void heal(LoadBalancer x) {
        x.setThresholds(1, 4);
        for (int server = 0; server < 8; server++) {
            x.report(server, true);
        }
    }

    private static void endLatest(LoadBalancer x, int connections) {
        int opened = x.count(2);
        for (int i = 1; i <= connections; i++) {
            x.close(opened - i, true);
        }
    }

    /** Slot 0 is saved and slot 1 is not; what was saved differs from what is. A breaker waits for the next tick. */
    private static LoadBalancer savedIn0(int policy) {
        LoadBalancer x = Probes.busy(policy);
        x.save(0);
        x.open(300);
        x.setCool(3);
        return x;
    }

    private static LoadBalancer allDraining(int policy) {
        LoadBalancer x = Probes.busy(policy);
        Scenes.drainAllBut(x, LoadBalancer.NONE, true);
        return x;
    }

    /** FALL is 4 there, and server 8 is unhealthy already. */
    private static LoadBalancer allUnhealthy(int policy) {
        LoadBalancer x = Probes.busy(policy);
        x.setThresholds(3, 1);
        for (int server = 0; server < 8; server++) {
            x.report(server, false);
        }
        return x;
    }

    /** Two servers with credits, a last server and a seed that were used, and no room. */
    private static LoadBalancer full(int policy) {
        LoadBalancer x = new LoadBalancer();
        x.setPolicy(policy);
        x.setSticky(20);
        x.addServer(3, 2);
        x.addServer(2, 1);
        for (int i = 0; i < 3; i++) {
            x.open(i);
        }
        return x;
    }

    /** Two servers whose breakers became OPEN so many ticks ago; if they are HALF_OPEN, each has its connection. */
    private static LoadBalancer tripped(int policy, int ticks) {
        LoadBalancer x = Scenes.withServers(2);
        x.setPolicy(policy);
        x.setSticky(20);
        while (x.preview(1) != LoadBalancer.NONE) {
            x.close(x.open(1), false);
        }
        if (ticks > 0) {
            x.tick(ticks);
            x.open(2);
            x.open(3);
        }
        return x;
    }

    /** As many connections as can be opened, which takes more than the 512 calls for which the document speaks. */
    private static LoadBalancer used(int policy) {
        LoadBalancer x = Scenes.withServers(2);
        x.setPolicy(policy);
        for (int i = 0; i < 1000; i++) {
            Scenes.useOnce(x, true);
        }
        x.setSticky(50);
        return x;
    }

    private String probed(int probe, LoadBalancer x) {
        reviver.accept(x);
        if (probe < Probes.COUNT) {
            return Probes.run(probe, x);
        }
        return restored(x, 0) + " / " + restored(x, 1);
    }

    private static String restored(LoadBalancer x, int slot) {
        try {
            x.restore(slot);
            return Scenes.picture(x);
        } catch (IllegalStateException e) {
            return "nothing";
        }
    }

    /** The call must throw this exception and leave all as it was; with open, one more rejection. */
    private void refused(String call, Class<? extends RuntimeException> exception, Consumer<LoadBalancer> code) {
        for (int probe = 0; probe < due.length; probe++) {
            LoadBalancer x = maker.get();
            int rejections = x.count(3) + (call.startsWith("open") ? 1 : 0);
            check.dueThrow(scene + ", " + call, exception, () -> code.accept(x));
            check.due(scene + ", rejections after " + call, x.count(3), rejections);
            check.due(scene + ", probe " + probe + " after " + call, probed(probe, x), due[probe]);
        }
    }

    private void index(String call, Consumer<LoadBalancer> code) {
        refused(call, IndexOutOfBoundsException.class, code);
    }

    private void argument(String call, Consumer<LoadBalancer> code) {
        refused(call, IllegalArgumentException.class, code);
    }

    private void state(String call, Consumer<LoadBalancer> code) {
        refused(call, IllegalStateException.class, code);
    }

    private void busyBalancer() {
        wrongServers(10);
        wrongArguments();
        int opened = maker.get().count(2);
        wrongConnections(opened);
        state("addServer(4, 4)", x -> x.addServer(4, 4));
        for (int weight : new int[] {0, 11}) {
            argument("setWeight(3, " + weight + ")", x -> x.setWeight(3, weight));
            index("setWeight(10, " + weight + ")", x -> x.setWeight(10, weight));
        }
        // The first connections of servers 0, 3 and 4 that ended: none of them may count twice.
        for (int closed : new int[] {10, 18, 23, 45, 49}) {
            state("close(" + closed + ", false)", x -> x.close(closed, false));
            state("close(" + closed + ", true)", x -> x.close(closed, true));
        }
        state("restore(1)", x -> x.restore(1));
    }

    private void newObject() {
        wrongServers(0);
        wrongArguments();
        wrongConnections(0);
        openRefused();
        state("owner(0)", x -> x.owner(0));
        state("restore(0)", x -> x.restore(0));
        state("restore(1)", x -> x.restore(1));
    }

    private void openRefused() {
        for (int client : new int[] {LOW, -1, 0, 1, 2, 100, 5000, HIGH}) {
            state("open(" + client + ")", x -> x.open(client));
        }
    }

    private void wrongServers(int servers) {
        for (int server : new int[] {-1, servers}) {
            String number = "(" + server;
            index("setWeight" + number + ", 9)", x -> x.setWeight(server, 9));
            index("setDraining" + number + ", true)", x -> x.setDraining(server, true));
            index("setDraining" + number + ", false)", x -> x.setDraining(server, false));
            index("report" + number + ", true)", x -> x.report(server, true));
            index("report" + number + ", false)", x -> x.report(server, false));
            index("isAvailable" + number + ")", x -> x.isAvailable(server));
            index("effectiveWeight" + number + ")", x -> x.effectiveWeight(server));
            index("active" + number + ")", x -> x.active(server));
            index("utilization" + number + ")", x -> x.utilization(server));
            index("breaker" + number + ")", x -> x.breaker(server));
        }
    }

    private void wrongArguments() {
        for (int[] wrong : new int[][] {{0, 4}, {11, 4}, {4, 0}, {4, 21}}) {
            argument("addServer(" + wrong[0] + ", " + wrong[1] + ")", x -> x.addServer(wrong[0], wrong[1]));
        }
        for (int[] wrong : new int[][] {{0, 1}, {10, 1}, {1, 0}, {1, 10}, {0, 9}, {9, 10}}) {
            argument("setThresholds(" + wrong[0] + ", " + wrong[1] + ")", x -> x.setThresholds(wrong[0], wrong[1]));
        }
        for (int[] outside : new int[][] {{-1, 51}, {LOW, HIGH}}) {
            for (int wrong : outside) {
                argument("setSlowStart(" + wrong + ")", x -> x.setSlowStart(wrong));
            }
        }
        either("setCool", 0, 51, LoadBalancer::setCool);
        either("setSticky", -1, 101, LoadBalancer::setSticky);
        either("setPolicy", -1, 5, LoadBalancer::setPolicy);
        either("tick", 0, 201, LoadBalancer::tick);
        either("count", -1, 5, LoadBalancer::count);
        either("save", -1, 2, LoadBalancer::save);
        either("restore", -1, 2, LoadBalancer::restore);
    }

    /** A call with one number. */
    private interface Call {
        void run(LoadBalancer x, int number);
    }

    private void either(String name, int below, int above, Call call) {
        for (int wrong : new int[] {LOW, below, above, HIGH}) {
            argument(name + "(" + wrong + ")", x -> call.run(x, wrong));
        }
    }

    private void wrongConnections(int opened) {
        for (int connection : new int[] {-1, opened, 1000}) {
            index("close(" + connection + ", true)", x -> x.close(connection, true));
            index("close(" + connection + ", false)", x -> x.close(connection, false));
            index("serverOf(" + connection + ")", x -> x.serverOf(connection));
        }
    }

    private static void firstThatApplies() {
        check.sentence("Each method names the exceptions that it throws in the order in which they are checked; the first one "
            + "that applies is thrown.");
        LoadBalancer full = Scenes.withServers(10);
        check.dueArgument("addServer(0, 1) with 10 servers", () -> full.addServer(0, 1));
        check.dueArgument("addServer(11, 1) with 10 servers", () -> full.addServer(11, 1));
        check.dueArgument("addServer(1, 0) with 10 servers", () -> full.addServer(1, 0));
        check.dueArgument("addServer(1, 21) with 10 servers", () -> full.addServer(1, 21));
        check.dueState("addServer(1, 1) with 10 servers", () -> full.addServer(1, 1));
        check.dueIndex("setWeight(10, 0)", () -> full.setWeight(10, 0));
        check.dueIndex("setWeight(-1, 11)", () -> full.setWeight(-1, 11));
        check.dueArgument("setWeight(9, 11)", () -> full.setWeight(9, 11));
        full.open(0);
        full.close(0, true);
        check.dueIndex("close(1, true)", () -> full.close(1, true));
        check.dueIndex("close(-1, true)", () -> full.close(-1, true));
        check.dueState("close(0, true)", () -> full.close(0, true));
        check.dueArgument("restore(2)", () -> full.restore(2));
        check.dueArgument("restore(-1)", () -> full.restore(-1));
        check.dueState("restore(1)", () -> full.restore(1));
    }
}
