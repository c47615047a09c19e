/** Promises 25 and 26: save and restore. */
public final class SavingTest {
    private static final Check check = new Check("SavingTest");

    public static void main(String[] args) {
        saveAndRestore();
        slotsAreApart();
        aSlotKeeps();
        saveOverwrites();
        restoresWhatNoQueryTells();
        restoresSettings();
        restoresBreakers();
        restoresServers();
        restoresConnections();
        restoresClients();
        savesAtTheLimits();
        wrongSlots();
        check.end();
    }

    private static LoadBalancer busy() {
        LoadBalancer x = new LoadBalancer();
        x.addServer(5, 9);
        x.addServer(2, 9);
        x.addServer(10, 3);
        x.setSticky(9);
        x.setSlowStart(20);
        x.setPolicy(LoadBalancer.WEIGHTED);
        for (int client = 0; client < 9; client++) {
            x.open(client);
        }
        x.tick(3);
        x.close(0, false);
        x.close(4, true);
        Scenes.recover(x, 0);
        x.tick(2);
        return x;
    }

    private static void saveAndRestore() {
        LoadBalancer x = busy();
        String before = Scenes.picture(x);
        x.save(0);
        check.due("25: save changes nothing", Scenes.picture(x), before);
        x.addServer(1, 1);
        x.setDraining(0, true);
        Scenes.fail(x, 1);
        x.setWeight(2, 4);
        x.tick(20);
        x.open(50);
        x.close(1, true);
        x.setPolicy(LoadBalancer.HASH);
        x.setSticky(0);
        x.restore(0);
        check.due("26: restore brings all back", Scenes.picture(x), before);
        check.dueIndex("26: the fourth server is gone", () -> x.active(3));
        check.due("26: the connection is active again", x.close(1, true), 5);
    }

    private static void slotsAreApart() {
        LoadBalancer x = new LoadBalancer();
        x.save(0);
        x.addServer(1, 1);
        check.dueState("26: the other slot is empty", () -> x.restore(1));
        x.save(1);
        x.addServer(1, 1);
        x.restore(0);
        check.due("26: restore(0)", x.servers(), 0);
        x.restore(1);
        check.due("26: restore(1), which came after save(0)", x.servers(), 1);
        x.restore(0);
        check.due("26: restore(0) again", x.servers(), 0);
    }

    private static void aSlotKeeps() {
        LoadBalancer x = Scenes.withServers(2);
        x.open(1);
        x.save(1);
        for (int i = 0; i < 3; i++) {
            x.open(2);
            x.close(0, false);
            x.tick(9);
            x.setWeight(0, 10);
            x.restore(1);
            check.due("26: opened connections", x.count(2), 1);
            check.due("26: active connections", x.count(1), 1);
            check.due("26: the time", x.count(0), 0);
            check.due("26: the weight", x.effectiveWeight(0), 1);
        }
    }

    private static void saveOverwrites() {
        LoadBalancer x = Scenes.withServers(1);
        x.setSticky(9);
        x.open(1);
        x.open(2);
        x.save(0);
        x.close(0, true);
        x.setSticky(0);
        x.save(0);
        x.open(3);
        x.restore(0);
        check.due("25: the later one counts", x.count(1), 1);
        check.due("25: opened", x.count(2), 2);
        check.due("25: remembered clients", x.count(4), 0);
        check.dueState("25: connection 0 is closed", () -> x.close(0, true));
    }

    /** What is not seen at once shows in the calls that follow: they must answer twice the same. */
    private static void restoresWhatNoQueryTells() {
        for (int policy = 0; policy <= 4; policy++) {
            LoadBalancer x = busy();
            x.setPolicy(policy);
            x.setSeed(4711);
            x.open(90);
            x.open(91);
            x.report(0, false);
            x.report(1, false);
            x.report(1, false);
            x.save(1);
            String first = later(x);
            x.setSeed(0);
            x.setPolicy(0);
            x.restore(1);
            check.due("26: the same calls, policy " + policy, later(x), first);
        }
    }

    private static String later(LoadBalancer x) {
        StringBuilder answers = new StringBuilder();
        answers.append(x.report(0, false)).append(x.report(1, false)).append(x.report(1, true));
        for (int i = 1; i < 4; i++) {
            answers.append(' ').append(x.close(i, false));
        }
        for (int i = 0; i < 12; i++) {
            int server = x.preview(100 + i % 3);
            answers.append(' ').append(server);
            if (server != LoadBalancer.NONE) {
                x.close(x.open(100 + i % 3), i % 2 == 0);
            }
            x.tick(1);
        }
        return answers.append(' ').append(Scenes.picture(x)).toString();
    }

    private static void restoresSettings() {
        LoadBalancer x = Scenes.withServers(1);
        x.setThresholds(1, 4);
        x.setSlowStart(11);
        x.setCool(12);
        x.setSticky(13);
        x.setPolicy(LoadBalancer.TWO_CHOICES);
        x.setSeed(14);
        x.save(0);
        x.setThresholds(9, 9);
        x.setSlowStart(0);
        x.setCool(1);
        x.setSticky(0);
        x.setPolicy(LoadBalancer.HASH);
        x.setSeed(0);
        x.restore(0);
        check.due("26: the window", x.setSlowStart(1), 11);
        check.due("26: COOL", x.setCool(1), 12);
        check.due("26: the duration", x.setSticky(1), 13);
        check.due("26: the policy", x.setPolicy(0), LoadBalancer.TWO_CHOICES);
        check.due("26: the seed", x.setSeed(1), 14);
        x.report(0, false);
        x.report(0, false);
        check.due("26: FALL, 3 of 4", x.report(0, false), true);
        check.due("26: FALL, 4 of 4", x.report(0, false), false);
        check.due("26: RISE, 1 of 1", x.report(0, true), true);
    }

    private static void restoresBreakers() {
        LoadBalancer x = Scenes.withServers(1);
        x.tick(10);
        Scenes.tripBreaker(x);
        x.tick(3);
        x.save(0);
        x.tick(2);
        Scenes.useOnce(x, false);
        x.tick(2);
        x.restore(0);
        x.tick(1);
        check.due("26: OPEN for 4 ticks", x.breaker(0), LoadBalancer.OPEN);
        x.tick(1);
        check.due("26: OPEN since the time that was saved", x.breaker(0), LoadBalancer.HALF_OPEN);
        x.save(0);
        int trial = x.open(1);
        x.save(1);
        x.restore(0);
        check.due("26: HALF_OPEN without a connection", x.isAvailable(0), true);
        x.restore(1);
        check.due("26: HALF_OPEN with its connection", x.isAvailable(0), false);
        x.close(trial, true);
        check.due("26: the connection that counts", x.breaker(0), LoadBalancer.CLOSED);
    }

    private static void restoresServers() {
        LoadBalancer x = new LoadBalancer();
        x.save(0);
        x.addServer(10, 4);
        x.setSlowStart(50);
        Scenes.recover(x, 0);
        x.open(1);
        x.save(1);
        x.tick(20);
        Scenes.recover(x, 0);
        x.restore(1);
        x.tick(9);
        check.due("26: healthy since the time that was saved", x.effectiveWeight(0), 2);
        x.restore(0);
        x.addServer(8, 2);
        x.setSlowStart(50);
        check.due("26: another server in its place", x.effectiveWeight(0), 8);
        x.restore(1);
        check.due("26: the capacity", x.utilization(0), 0.25);
        check.due("26: it became healthy by checks", x.effectiveWeight(0), 1);
    }

    private static void restoresConnections() {
        LoadBalancer x = Scenes.withServers(2);
        x.save(0);
        x.tick(4);
        x.open(1);
        x.open(1);
        x.setDraining(0, true);
        x.setDraining(1, true);
        check.dueState("15: open", () -> x.open(1));
        x.save(1);
        x.restore(0);
        check.due("26: no rejections", x.count(3), 0);
        x.setDraining(0, true);
        x.open(1);
        x.open(1);
        x.restore(1);
        check.due("26: rejections", x.count(3), 1);
        check.due("26: serverOf(0)", x.serverOf(0), 0);
        check.due("26: serverOf(1)", x.serverOf(1), 1);
        x.tick(3);
        check.due("26: opened at its time", x.close(0, true), 3);
        check.due("26: one ended", x.active(0), 0);
    }

    private static void restoresClients() {
        LoadBalancer x = Scenes.withServers(3);
        x.setSticky(5);
        x.save(0);
        x.tick(3);
        x.open(7);
        x.open(8);
        x.save(1);
        x.restore(0);
        check.due("26: nobody is remembered", x.count(4), 0);
        x.setDraining(0, true);
        x.open(9);
        x.open(7);
        x.restore(1);
        x.tick(4);
        check.due("26: client 7 is sticky", x.preview(7), 0);
        check.due("26: client 8 is sticky", x.preview(8), 1);
        check.due("26: client 9 is not", x.preview(9), 2);
        x.tick(1);
        check.due("26: from the time that was saved", x.preview(7), 2);
    }

    /** With 10 servers, 40 remembered clients and 1000 connections, which takes more than 512 calls. */
    private static void savesAtTheLimits() {
        LoadBalancer x = Scenes.withServers(10);
        x.setSticky(1);
        for (int i = 0; i < 1000; i++) {
            x.close(x.open(i), true);
        }
        String before = Scenes.picture(x);
        x.save(0);
        x.restore(0);
        check.due("26: restore at all limits", Scenes.picture(x), before);
        check.dueState("26: connection 999 is closed", () -> x.close(999, true));
        check.dueState("26: no more connections", () -> x.open(1));
    }

    private static void wrongSlots() {
        LoadBalancer x = Scenes.withServers(1);
        for (int slot : new int[] {-1, 2, Integer.MIN_VALUE, Integer.MAX_VALUE}) {
            check.dueArgument("25: save(" + slot + ")", () -> x.save(slot));
            check.dueArgument("26: restore(" + slot + ")", () -> x.restore(slot));
        }
        check.dueState("26: restore(0), nothing saved", () -> x.restore(0));
        check.dueState("26: restore(1), nothing saved", () -> x.restore(1));
        check.due("26: servers() after wrong calls", x.servers(), 1);
    }
}
