/** Promises 18 to 24: isAvailable, effectiveWeight, active, utilization, breaker, owner, count. */
public final class QueriesTest {
    private static final Check check = new Check("QueriesTest");

    public static void main(String[] args) {
        isAvailable();
        effectiveWeight();
        effectiveWeightFromTheLatestTime();
        activeAndUtilization();
        owner();
        count();
        wrongServers();
        check.end();
    }

    private static void isAvailable() {
        LoadBalancer x = new LoadBalancer();
        x.addServer(1, 2);
        check.due("18: a new server", x.isAvailable(0), true);
        x.open(1);
        check.due("18: one below its capacity", x.isAvailable(0), true);
        x.open(1);
        check.due("18: full", x.isAvailable(0), false);
        x.close(0, true);
        check.due("18: one ended", x.isAvailable(0), true);
        x.setDraining(0, true);
        check.due("18: draining", x.isAvailable(0), false);
        Scenes.fail(x, 0);
        x.setDraining(0, false);
        check.due("18: unhealthy", x.isAvailable(0), false);
        x.report(0, true);
        x.report(0, true);
        check.due("18: healthy again", x.isAvailable(0), true);
    }

    private static void effectiveWeight() {
        LoadBalancer x = new LoadBalancer();
        x.addServer(7, 4);
        x.setSlowStart(5);
        check.due("19: healthy from the beginning", x.effectiveWeight(0), 7);
        x.tick(3);
        Scenes.recover(x, 0);
        int[] due = {1, 2, 4, 5, 7, 7, 7};
        for (int e = 0; e < due.length; e++) {
            check.due("19: 7 * (" + e + " + 1) / 5", x.effectiveWeight(0), due[e]);
            x.tick(1);
        }
        x.setSlowStart(50);
        check.due("19: 7 * 8 / 50", x.effectiveWeight(0), 1);
        x.setWeight(0, 1);
        check.due("19: 1 * 8 / 50, but at least 1", x.effectiveWeight(0), 1);
        x.setWeight(0, 10);
        x.tick(42);
        check.due("19: 10 * 50 / 50", x.effectiveWeight(0), 10);
        x.tick(1);
        check.due("19: out of the window", x.effectiveWeight(0), 10);
    }

    private static void effectiveWeightFromTheLatestTime() {
        LoadBalancer x = new LoadBalancer();
        x.addServer(10, 4);
        x.addServer(10, 4);
        x.setSlowStart(10);
        Scenes.fail(x, 0);
        check.due("19: unhealthy, never healthy by checks", x.effectiveWeight(0), 10);
        x.report(0, true);
        x.report(0, true);
        x.tick(4);
        Scenes.fail(x, 0);
        check.due("19: unhealthy, healthy by checks 4 ticks ago", x.effectiveWeight(0), 5);
        x.report(0, true);
        check.due("19: not healthy yet", x.effectiveWeight(0), 5);
        x.report(0, true);
        check.due("19: healthy by checks now", x.effectiveWeight(0), 1);
        x.report(0, true);
        x.tick(1);
        x.report(0, true);
        x.report(0, true);
        check.due("19: checks of a healthy server change nothing", x.effectiveWeight(0), 2);
        check.due("19: the other server", x.effectiveWeight(1), 10);
    }

    private static void activeAndUtilization() {
        LoadBalancer x = new LoadBalancer();
        x.addServer(1, 3);
        x.addServer(1, 20);
        check.due("21: utilization(0)", x.utilization(0), 0.0);
        x.open(1);
        x.open(1);
        x.open(1);
        check.due("20: active(0)", x.active(0), 2);
        check.due("20: active(1)", x.active(1), 1);
        check.due("21: utilization(0)", x.utilization(0), 2.0 / 3.0);
        check.due("21: utilization(1)", x.utilization(1), 0.05);
        x.open(1);
        x.open(1);
        check.due("21: utilization(0), full", x.utilization(0), 1.0);
        x.close(0, false);
        check.due("20: active(0) after a close", x.active(0), 2);
        x.setDraining(0, true);
        Scenes.fail(x, 0);
        check.due("20: active(0) of an unhealthy one", x.active(0), 2);
        check.due("21: utilization(0) of an unhealthy one", x.utilization(0), 2.0 / 3.0);
    }

    private static void owner() {
        LoadBalancer x = new LoadBalancer();
        check.dueState("23: owner(1) without servers", () -> x.owner(1));
        x.addServer(5, 4);
        check.due("23: one server owns all", x.owner(Integer.MIN_VALUE), 0);
        x.addServer(5, 4);
        int before = x.owner(77);
        for (int policy = 0; policy <= 4; policy++) {
            x.setPolicy(policy);
            check.due("23: owner(77), policy " + policy, x.owner(77), before);
        }
        x.setDraining(0, true);
        x.setDraining(1, true);
        check.due("23: owner(77), no server available", x.owner(77), before);
        x.setSlowStart(50);
        Scenes.recover(x, before);
        check.due("23: points are those of the weight", x.owner(77), before);
    }

    private static void count() {
        LoadBalancer x = Scenes.withServers(2);
        x.setSticky(50);
        x.tick(6);
        x.open(1);
        x.open(2);
        x.open(3);
        x.close(1, true);
        x.setDraining(0, true);
        x.setDraining(1, true);
        check.dueState("15: open", () -> x.open(4));
        check.due("24: count(0)", x.count(0), 6);
        check.due("24: count(1)", x.count(1), 2);
        check.due("24: count(2)", x.count(2), 3);
        check.due("24: count(3)", x.count(3), 1);
        check.due("24: count(4)", x.count(4), 3);
        for (int what : new int[] {-1, 5, Integer.MIN_VALUE, Integer.MAX_VALUE}) {
            check.dueArgument("24: count(" + what + ")", () -> x.count(what));
        }
    }

    private static void wrongServers() {
        for (int servers : new int[] {0, 3, 10}) {
            LoadBalancer x = Scenes.withServers(servers);
            for (int server : new int[] {-1, servers, servers + 1, Integer.MIN_VALUE, Integer.MAX_VALUE}) {
                check.dueIndex("18: isAvailable(" + server + ")", () -> x.isAvailable(server));
                check.dueIndex("19: effectiveWeight(" + server + ")", () -> x.effectiveWeight(server));
                check.dueIndex("20: active(" + server + ")", () -> x.active(server));
                check.dueIndex("21: utilization(" + server + ")", () -> x.utilization(server));
                check.dueIndex("22: breaker(" + server + ")", () -> x.breaker(server));
            }
        }
    }
}
