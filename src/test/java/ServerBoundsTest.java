/** The boundary cases of SERVERS, HEALTH and SLOW START in the description: a test for each sentence. */
public final class ServerBoundsTest {
    private static final Check check = new Check("ServerBoundsTest");

    public static void main(String[] args) {
        at512Calls();
        upToTenServers();
        weightFrom1To10();
        capacityFrom1To20();
        aServerAtFirst();
        theTimeAtFirst();
        reachesFall();
        reachesRise();
        countsAreZero();
        firstThresholds();
        windowFrom0To50();
        notByChecks();
        fewerThanWTicks();
        sinceTheLatestTime();
        atLeastOne();
        check.end();
    }

    private static void at512Calls() {
        check.sentence("An object is used for at most 512 calls after it has been made; what later calls answer is free.");
        LoadBalancer x = Scenes.withServers(1);
        for (int i = 0; i < 255; i++) {
            check.due("open", x.open(i), i);
            check.due("close", x.close(i, true), 0);
        }
        check.due("count(2), call 512", x.count(2), 255);
    }

    private static void upToTenServers() {
        check.sentence("There are up to 10 servers, numbered from 0 in the order in which they were added.");
        LoadBalancer x = new LoadBalancer();
        for (int i = 0; i < 10; i++) {
            int number = i;
            check.dueIndex("active(" + i + ") before it is added", () -> x.active(number));
            check.due("addServer " + i, x.addServer(10 - i, 1), i);
            check.due("active(" + i + ")", x.active(i), 0);
        }
        check.dueState("addServer, the 11th", () -> x.addServer(1, 1));
        check.due("servers()", x.servers(), 10);
        check.dueIndex("active(10)", () -> x.active(10));
        for (int i = 0; i < 10; i++) {
            check.due("effectiveWeight(" + i + ")", x.effectiveWeight(i), 10 - i);
            check.due("the server of connection " + i, Scenes.place(x, 0), i);
        }
    }

    private static void weightFrom1To10() {
        check.sentence("A server has a weight (1 to 10)");
        LoadBalancer x = new LoadBalancer();
        check.dueArgument("addServer(0, 4)", () -> x.addServer(0, 4));
        check.dueArgument("addServer(11, 4)", () -> x.addServer(11, 4));
        check.due("addServer(1, 4)", x.addServer(1, 4), 0);
        check.due("addServer(10, 4)", x.addServer(10, 4), 1);
        check.due("effectiveWeight(0)", x.effectiveWeight(0), 1);
        check.due("effectiveWeight(1)", x.effectiveWeight(1), 10);
    }

    private static void capacityFrom1To20() {
        check.sentence("a capacity (1 to 20), the number of its active connections");
        LoadBalancer x = new LoadBalancer();
        check.dueArgument("addServer(1, 0)", () -> x.addServer(1, 0));
        check.dueArgument("addServer(1, 21)", () -> x.addServer(1, 21));
        check.due("addServer(1, 1)", x.addServer(1, 1), 0);
        check.due("the one connection", Scenes.place(x, 0), 0);
        check.due("a capacity of 1 is full", x.isAvailable(0), false);
        check.due("addServer(1, 20)", x.addServer(1, 20), 1);
        for (int i = 0; i < 20; i++) {
            check.due("active(1)", x.active(1), i);
            check.due("a capacity of 20 has room", x.isAvailable(1), true);
            x.open(0);
        }
        check.due("active(1)", x.active(1), 20);
        check.due("a capacity of 20 is full", x.isAvailable(1), false);
    }

    private static void aServerAtFirst() {
        check.sentence("It is healthy and not draining at first.");
        LoadBalancer x = Scenes.withServers(2);
        check.due("isAvailable(0)", x.isAvailable(0), true);
        check.due("a successful check of a healthy server", x.report(0, true), true);
        check.due("setDraining(0, true)", x.setDraining(0, true), false);
        check.due("setDraining(1, false)", x.setDraining(1, false), false);
    }

    private static void theTimeAtFirst() {
        check.sentence("The time is a number of ticks, at first 0.");
        LoadBalancer x = new LoadBalancer();
        check.due("count(0)", x.count(0), 0);
        check.due("tick(1)", x.tick(1), 1);
        check.due("count(0)", x.count(0), 1);
    }

    /** For each limit: one check too few, a successful one in between, one too few again, and the one that reaches it. */
    private static void reachesFall() {
        check.sentence("A healthy server becomes unhealthy when the number of failed checks without a successful one in "
            + "between reaches FALL.");
        for (int fall = 1; fall <= 9; fall++) {
            LoadBalancer x = Scenes.withServers(2);
            x.setThresholds(1, fall);
            for (int round = 0; round < 2; round++) {
                for (int i = 1; i < fall; i++) {
                    check.due("FALL " + fall + ", failed check " + i, x.report(0, false), true);
                    check.due("a failed check of the other server between successful ones", bothWays(x), true);
                }
                if (round == 0) {
                    check.due("FALL " + fall + ", a successful check", x.report(0, true), true);
                }
            }
            check.due("FALL " + fall + ", still available", x.isAvailable(0), true);
            check.due("FALL " + fall + ", failed check " + fall, x.report(0, false), false);
            check.due("FALL " + fall + ", not available", x.isAvailable(0), false);
        }
    }

    private static boolean bothWays(LoadBalancer x) {
        return x.report(1, true) && (x.report(1, false) || x.report(1, true));
    }

    private static void reachesRise() {
        check.sentence("An unhealthy server becomes healthy when the number of successful checks without a failed one in "
            + "between reaches RISE.");
        for (int rise = 1; rise <= 9; rise++) {
            LoadBalancer x = Scenes.withServers(1);
            x.setThresholds(rise, 1);
            x.report(0, false);
            for (int round = 0; round < 2; round++) {
                for (int i = 1; i < rise; i++) {
                    check.due("RISE " + rise + ", successful check " + i, x.report(0, true), false);
                }
                if (round == 0) {
                    check.due("RISE " + rise + ", a failed check", x.report(0, false), false);
                }
            }
            check.due("RISE " + rise + ", not available yet", x.isAvailable(0), false);
            check.due("RISE " + rise + ", successful check " + rise, x.report(0, true), true);
            check.due("RISE " + rise + ", available", x.isAvailable(0), true);
        }
    }

    private static void countsAreZero() {
        check.sentence("These counts are 0 whenever a server becomes healthy or unhealthy.");
        LoadBalancer x = Scenes.withServers(1);
        x.setThresholds(4, 4);
        for (int round = 0; round < 2; round++) {
            for (int i = 0; i < 6; i++) {
                check.due("successful checks while healthy", x.report(0, true), true);
            }
            for (int i = 1; i <= 4; i++) {
                check.due("failed check " + i + " of 4", x.report(0, false), i < 4);
            }
            for (int i = 1; i <= 4; i++) {
                check.due("successful check " + i + " of 4", x.report(0, true), i == 4);
            }
            for (int i = 1; i <= 4; i++) {
                check.due("at once failed check " + i + " of 4", x.report(0, false), i < 4);
            }
            for (int i = 0; i < 6; i++) {
                check.due("failed checks while unhealthy", x.report(0, false), false);
            }
            for (int i = 1; i <= 4; i++) {
                check.due("then successful check " + i + " of 4", x.report(0, true), i == 4);
            }
        }
    }

    private static void firstThresholds() {
        check.sentence("FALL is 3 and RISE is 2 at first.");
        LoadBalancer x = Scenes.withServers(1);
        check.due("failed check 1", x.report(0, false), true);
        check.due("failed check 2", x.report(0, false), true);
        check.due("failed check 3", x.report(0, false), false);
        check.due("successful check 1", x.report(0, true), false);
        check.due("successful check 2", x.report(0, true), true);
    }

    /** A balancer with a server of weight 10 that became healthy by checks in this very tick. */
    private static LoadBalancer recoveredAt(int time, int window) {
        LoadBalancer x = new LoadBalancer();
        x.addServer(10, 4);
        x.setSlowStart(window);
        if (time > 0) {
            x.tick(time);
        }
        Scenes.recover(x, 0);
        return x;
    }

    private static void windowFrom0To50() {
        check.sentence("There is a window W from 0 to 50 ticks, at first 0.");
        LoadBalancer first = new LoadBalancer();
        first.addServer(10, 4);
        Scenes.recover(first, 0);
        check.due("no slow start at first", first.effectiveWeight(0), 10);
        check.dueArgument("setSlowStart(-1)", () -> first.setSlowStart(-1));
        check.dueArgument("setSlowStart(51)", () -> first.setSlowStart(51));
        check.due("setSlowStart(50)", first.setSlowStart(50), 0);
        check.due("10 * 1 / 50, at least 1", first.effectiveWeight(0), 1);
        first.tick(14);
        check.due("10 * 15 / 50", first.effectiveWeight(0), 3);
        check.due("setSlowStart(0)", first.setSlowStart(0), 50);
        check.due("W 0, 14 ticks", first.effectiveWeight(0), 10);
        Scenes.recover(first, 0);
        check.due("W 0, no tick", first.effectiveWeight(0), 10);
    }

    private static void notByChecks() {
        check.sentence("The effective weight of a server is its weight, unless it became healthy by checks");
        LoadBalancer x = new LoadBalancer();
        x.addServer(10, 4);
        x.setSlowStart(50);
        check.due("added at time 0", x.effectiveWeight(0), 10);
        x.tick(3);
        x.addServer(9, 4);
        check.due("added at time 3", x.effectiveWeight(1), 9);
        x.report(0, false);
        x.report(0, false);
        x.report(0, true);
        check.due("two failed checks and a successful one", x.effectiveWeight(0), 10);
        Scenes.fail(x, 0);
        check.due("unhealthy", x.effectiveWeight(0), 10);
        x.report(0, true);
        check.due("one successful check too few", x.effectiveWeight(0), 10);
        x.setDraining(1, true);
        x.setDraining(1, false);
        check.due("draining does not count", x.effectiveWeight(1), 9);
        x.report(0, true);
        check.due("healthy by checks", x.effectiveWeight(0), 1);
    }

    /** Were the last tick counted as well, the formula would give more than the weight there. */
    private static void fewerThanWTicks() {
        check.sentence("fewer than W ticks have passed since the latest time at which this happened");
        for (int window : new int[] {1, 2, 5, 10, 49, 50}) {
            for (int time : new int[] {0, 7}) {
                LoadBalancer x = recoveredAt(time, window);
                for (int e = 0; e < window; e++) {
                    check.due("W " + window + ", " + e + " ticks", x.effectiveWeight(0),
                        Math.max(1, 10 * (e + 1) / window));
                    x.tick(1);
                }
                check.due("W " + window + ", W ticks", x.effectiveWeight(0), 10);
                x.tick(1);
                check.due("W " + window + ", W + 1 ticks", x.effectiveWeight(0), 10);
            }
        }
    }

    private static void sinceTheLatestTime() {
        check.sentence("with e as the number of ticks since then");
        LoadBalancer x = recoveredAt(0, 10);
        x.tick(6);
        check.due("6 ticks after the first time", x.effectiveWeight(0), 7);
        Scenes.recover(x, 0);
        check.due("at the second time", x.effectiveWeight(0), 1);
        x.tick(9);
        check.due("9 ticks after the second time", x.effectiveWeight(0), 10);
        x.setSlowStart(20);
        Scenes.fail(x, 0);
        check.due("unhealthy again, 9 ticks after the second time", x.effectiveWeight(0), 5);
        x.setSlowStart(10);
        x.tick(200);
        check.due("long after it", x.effectiveWeight(0), 10);
        Scenes.recover(x, 0);
        x.tick(1);
        check.due("one tick after the third time", x.effectiveWeight(0), 2);
    }

    private static void atLeastOne() {
        check.sentence("it is weight * (e + 1) / W (integer division), but at least 1.");
        LoadBalancer x = recoveredAt(0, 50);
        int[] ticks = {0, 3, 4, 5, 8, 9, 10, 48, 49};
        int[] due = {1, 1, 1, 1, 1, 2, 2, 9, 10};
        for (int i = 0; i < ticks.length; i++) {
            if (ticks[i] > x.count(0)) {
                x.tick(ticks[i] - x.count(0));
            }
            check.due("10 * (" + ticks[i] + " + 1) / 50", x.effectiveWeight(0), due[i]);
        }
        x.setWeight(0, 1);
        check.due("1 * 50 / 50", x.effectiveWeight(0), 1);
        Scenes.recover(x, 0);
        check.due("1 * 1 / 50, but at least 1", x.effectiveWeight(0), 1);
        x.tick(48);
        check.due("1 * 49 / 50, but at least 1", x.effectiveWeight(0), 1);
    }
}
