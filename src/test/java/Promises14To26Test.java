import java.util.function.IntConsumer;

/** The boundary cases of promises 14 to 26: a test for each sentence of their sections. */
public final class Promises14To26Test {
    private static final Check check = new Check("Promises14To26Test");
    private static final int LOW = Integer.MIN_VALUE;
    private static final int HIGH = Integer.MAX_VALUE;

    public static void main(String[] args) {
        previewNone();
        previewChangesNothing();
        openReturns();
        openRejected();
        closeReturns();
        closeNotOpened();
        closeTwice();
        serverOfClosed();
        serverOfNotOpened();
        isAvailable();
        effectiveWeight();
        active();
        utilization();
        breaker();
        ownerOfAny();
        ownerWithoutServers();
        counts();
        countRange();
        saveEverything();
        saveOverwrites();
        saveRange();
        restoreKeeps();
        restoreRange();
        restoreNothing();
        check.end();
    }

    private static void previewNone() {
        check.sentence("Returns the server that open(client) would use now, or NONE if it would throw an exception");
        LoadBalancer empty = new LoadBalancer();
        check.due("no servers", empty.preview(0), LoadBalancer.NONE);
        for (int policy = 0; policy <= 4; policy++) {
            LoadBalancer x = new LoadBalancer();
            x.addServer(1, 1);
            x.addServer(1, 1);
            x.setPolicy(policy);
            for (int i = 0; i < 2; i++) {
                int previewed = x.preview(5);
                check.due("policy " + policy + ", open uses it", Scenes.place(x, 5), previewed);
            }
            check.due("policy " + policy + ", all full", x.preview(5), LoadBalancer.NONE);
            x.close(0, true);
            check.due("policy " + policy + ", room at one", x.preview(5), x.serverOf(0));
            x.setDraining(x.serverOf(0), true);
            check.due("policy " + policy + ", it is draining", x.preview(5), LoadBalancer.NONE);
            for (int client : new int[] {LOW, -1, 0, HIGH}) {
                check.due("policy " + policy + ", preview(" + client + ")", x.preview(client), LoadBalancer.NONE);
            }
        }
    }

    private static void previewChangesNothing() {
        check.sentence("nothing changes.");
        for (int policy = 0; policy <= 4; policy++) {
            LoadBalancer x = Scenes.withServers(3);
            LoadBalancer same = Scenes.withServers(3);
            x.setPolicy(policy);
            same.setPolicy(policy);
            x.setSticky(3);
            same.setSticky(3);
            for (int i = 0; i < 30; i++) {
                for (int client : new int[] {i, -i, 0, LOW, HIGH}) {
                    x.preview(client);
                }
                check.due("policy " + policy + ", open after previews", Scenes.place(x, i % 4), Scenes.place(same, i % 4));
            }
            check.due("the same picture", Scenes.picture(x), Scenes.picture(same));
            check.due("the same seed", x.setSeed(0), same.setSeed(0));
            Scenes.drainAllBut(x, LoadBalancer.NONE, true);
            x.preview(0);
            check.due("no rejection by NONE", x.count(3), 0);
        }
    }

    private static void openReturns() {
        check.sentence("Returns the number of the connection.");
        LoadBalancer x = Scenes.withServers(10);
        for (int i = 0; i < 200; i++) {
            check.due("open", x.open(i), i);
        }
        check.dueState("all servers are full", () -> x.open(0));
        x.close(0, true);
        check.due("open", x.open(0), 200);
    }

    private static void openRejected() {
        check.sentence("Throws `IllegalStateException` if 1000 connections were opened, or no server is available; in both "
            + "cases one more rejection is counted");
        LoadBalancer empty = new LoadBalancer();
        for (int i = 0; i < 3; i++) {
            check.due("count(3)", empty.count(3), i);
            check.dueState("no servers", () -> empty.open(0));
        }
        check.due("count(3)", empty.count(3), 3);
        LoadBalancer full = new LoadBalancer();
        full.addServer(1, 1);
        full.open(0);
        check.due("count(3), none yet", full.count(3), 0);
        check.dueState("full", () -> full.open(0));
        check.due("count(3), full", full.count(3), 1);
        full.close(0, true);
        Scenes.fail(full, 0);
        check.dueState("unhealthy", () -> full.open(0));
        check.due("count(3), unhealthy", full.count(3), 2);
        full.report(0, true);
        full.report(0, true);
        full.setDraining(0, true);
        check.dueState("draining", () -> full.open(0));
        check.due("count(3), draining", full.count(3), 3);
        LoadBalancer tripped = Scenes.withServers(1);
        Scenes.tripBreaker(tripped);
        check.dueState("OPEN", () -> tripped.open(0));
        check.due("count(3), OPEN", tripped.count(3), 1);
        tripped.tick(5);
        tripped.open(0);
        check.dueState("HALF_OPEN with its connection", () -> tripped.open(0));
        check.due("count(3), HALF_OPEN", tripped.count(3), 2);
        LoadBalancer used = Scenes.withServers(1);
        for (int i = 0; i < 1000; i++) {
            Scenes.useOnce(used, true);
        }
        check.due("count(3), 1000 opened", used.count(3), 0);
        check.dueState("the 1001st", () -> used.open(0));
        check.due("count(3), the 1001st", used.count(3), 1);
        used.setDraining(0, true);
        check.dueState("the 1001st without a server", () -> used.open(0));
        check.due("count(3), both reasons count once", used.count(3), 2);
    }

    private static void closeReturns() {
        check.sentence("Returns the number of ticks for which it was active.");
        LoadBalancer x = Scenes.withServers(1);
        x.open(0);
        check.due("at once, at time 0", x.close(0, true), 0);
        x.tick(5);
        x.open(0);
        check.due("at once, at time 5", x.close(1, true), 0);
        x.open(0);
        x.tick(1);
        check.due("one tick", x.close(2, true), 1);
        x.open(0);
        for (int i = 0; i < 10; i++) {
            x.tick(200);
        }
        check.due("2000 ticks", x.close(3, false), 2000);
    }

    private static void noSuch(String call, IntConsumer code, int... numbers) {
        for (int number : numbers) {
            check.dueIndex(call.replace("?", "" + number), () -> code.accept(number));
        }
    }

    private static void closeNotOpened() {
        check.sentence("Throws `IndexOutOfBoundsException` if no connection with this number was opened");
        LoadBalancer x = Scenes.withServers(1);
        noSuch("none opened, close(?, true)", c -> x.close(c, true), LOW, -1, 0, 1, 999, 1000, HIGH);
        x.open(0);
        x.open(0);
        x.open(0);
        noSuch("three opened, close(?, true)", c -> x.close(c, true), LOW, -1, 3, 4, 999, 1000, HIGH);
        noSuch("three opened, close(?, false)", c -> x.close(c, false), LOW, -1, 3, 4, 999, 1000, HIGH);
        check.due("three are active", x.active(0), 3);
        check.due("the last one", x.close(2, true), 0);
        check.due("the first one", x.close(0, true), 0);
        x.save(0);
        x.open(0);
        x.restore(0);
        noSuch("opened after the save, close(?, true)", c -> x.close(c, true), 3);
    }

    private static void closeTwice() {
        check.sentence("Throws `IllegalStateException` if it was closed already");
        LoadBalancer x = Scenes.withServers(1);
        x.open(0);
        x.open(0);
        x.close(0, false);
        for (int i = 0; i < 4; i++) {
            check.dueState("close(0, false) again", () -> x.close(0, false));
            check.dueState("close(0, true) again", () -> x.close(0, true));
        }
        check.due("the other one is active", x.active(0), 1);
        check.due("no result was added", x.breaker(0), LoadBalancer.CLOSED);
        x.close(1, true);
        check.dueState("close(1, true) again", () -> x.close(1, true));
        check.due("active(0)", x.active(0), 0);
    }

    private static void serverOfClosed() {
        check.sentence("Returns the server of a connection (also of a closed one).");
        LoadBalancer x = Scenes.withServers(10);
        for (int i = 0; i < 20; i++) {
            x.open(0);
            check.due("an active one", x.serverOf(i), i % 10);
        }
        for (int i = 0; i < 20; i++) {
            x.close(i, i % 3 != 0);
            check.due("a closed one", x.serverOf(i), i % 10);
        }
    }

    private static void serverOfNotOpened() {
        check.sentence("Throws `IndexOutOfBoundsException` if no connection with this number was opened");
        LoadBalancer x = Scenes.withServers(1);
        noSuch("none opened, serverOf(?)", x::serverOf, LOW, -1, 0, 1, 999, 1000, HIGH);
        x.open(0);
        check.due("serverOf(0)", x.serverOf(0), 0);
        noSuch("one opened, serverOf(?)", x::serverOf, LOW, -1, 1, 999, 1000, HIGH);
    }

    /** A query with the number of a server. */
    private interface Query {
        Object run(LoadBalancer x, int server);
    }

    /** With none, one, nine and ten servers: each number that is a server's has the answer, and the next ones have none. */
    private static void forServers(String name, Query query, Object want) {
        for (int servers : new int[] {1, 9, 10}) {
            LoadBalancer x = Scenes.withServers(servers);
            for (int server = 0; server < servers; server++) {
                check.due(servers + " servers, " + name + "(" + server + ")", query.run(x, server), want);
            }
        }
        LoadBalancer x = Scenes.withServers(1);
        x.save(0);
        x.addServer(1, 20);
        check.due("a second server, " + name + "(1)", query.run(x, 1), want);
        x.restore(0);
        check.sentence("Throws `IndexOutOfBoundsException` if there is no such server");
        for (int servers : new int[] {0, 1, 9, 10}) {
            LoadBalancer y = Scenes.withServers(servers);
            noSuch(servers + " servers, " + name + "(?)", s -> query.run(y, s), LOW, -1, servers, servers + 1, 1000, HIGH);
        }
        noSuch("added after the save, " + name + "(?)", s -> query.run(x, s), 1);
    }

    private static void isAvailable() {
        check.sentence("Tells whether a server is available.");
        forServers("isAvailable", LoadBalancer::isAvailable, true);
    }

    private static void effectiveWeight() {
        check.sentence("Returns the effective weight of a server.");
        forServers("effectiveWeight", LoadBalancer::effectiveWeight, 1);
    }

    private static void active() {
        check.sentence("Returns the number of active connections of a server.");
        LoadBalancer x = Scenes.withServers(2);
        Scenes.load(x, 1, 20);
        check.due("full", x.active(1), 20);
        check.due("the other one", x.active(0), 0);
        for (int i = 0; i < 20; i++) {
            x.close(i, true);
        }
        check.due("empty again", x.active(1), 0);
        forServers("active", LoadBalancer::active, 0);
    }

    private static void utilization() {
        check.sentence("Returns the utilization of a server: active connections divided by capacity, as a double.");
        for (int capacity = 1; capacity <= 20; capacity++) {
            LoadBalancer x = new LoadBalancer();
            x.addServer(1, capacity);
            for (int active = 0; active <= capacity; active++) {
                check.due(active + " of " + capacity, x.utilization(0), active / (double) capacity);
                if (active < capacity) {
                    x.open(0);
                }
            }
            check.due("full", x.utilization(0), 1.0);
        }
        forServers("utilization", LoadBalancer::utilization, 0.0);
    }

    private static void breaker() {
        check.sentence("Returns the state of the breaker of a server: CLOSED, OPEN or HALF_OPEN.");
        LoadBalancer x = Scenes.withServers(1);
        Scenes.tripBreaker(x);
        check.due("OPEN", x.breaker(0), 1);
        x.tick(5);
        check.due("HALF_OPEN", x.breaker(0), 2);
        Scenes.useOnce(x, true);
        check.due("CLOSED", x.breaker(0), 0);
        forServers("breaker", LoadBalancer::breaker, 0);
    }

    private static void ownerOfAny() {
        check.sentence("Returns the server to which the first point belongs that is considered for a client by the policy "
            + "HASH, whether the server is available or not, and whatever the policy is.");
        int[] clients = {LOW, LOW + 1, -1000, -1, 0, 1, 2, 39, 40, 1000, 1001, 2000, 2027, HIGH};
        LoadBalancer one = Scenes.withServers(1);
        one.setDraining(0, true);
        for (int client : clients) {
            check.due("one server, owner(" + client + ")", one.owner(client), 0);
        }
        Ring ring = new Ring(3, 10, 7);
        LoadBalancer x = Scenes.withServers(3);
        x.setWeight(0, 3);
        x.setWeight(1, 10);
        x.setWeight(2, 7);
        x.setSticky(100);
        for (int policy = 0; policy <= 4; policy++) {
            x.setPolicy(policy);
            for (int client : clients) {
                Scenes.useOnce(x, true);
                check.due("policy " + policy + ", owner(" + client + ")", x.owner(client), ring.walk(client, -1));
            }
        }
        x.setDraining(0, true);
        Scenes.fail(x, 1);
        for (int client : clients) {
            check.due("not available, owner(" + client + ")", x.owner(client), ring.walk(client, -1));
        }
    }

    private static void ownerWithoutServers() {
        check.sentence("Throws `IllegalStateException` if there are no servers");
        LoadBalancer x = new LoadBalancer();
        x.save(0);
        check.dueState("owner(0)", () -> x.owner(0));
        check.dueState("owner(MIN_VALUE)", () -> x.owner(LOW));
        x.addServer(1, 1);
        check.due("owner(0), one server", x.owner(0), 0);
        x.setDraining(0, true);
        check.due("owner(0), none available", x.owner(0), 0);
        x.restore(0);
        check.dueState("owner(0), none again", () -> x.owner(0));
        check.due("it is no rejection", x.count(3), 0);
    }

    private static void counts() {
        check.sentence("0 the time, 1 active connections, 2 opened connections, 3 rejections, 4 remembered sticky clients");
        LoadBalancer x = Scenes.withServers(2);
        x.setSticky(100);
        for (int i = 0; i < 5; i++) {
            x.open(i);
        }
        x.close(2, true);
        x.close(3, true);
        x.tick(7);
        Scenes.drainAllBut(x, LoadBalancer.NONE, true);
        check.dueState("open", () -> x.open(9));
        check.due("count(0)", x.count(0), 7);
        check.due("count(1)", x.count(1), 3);
        check.due("count(2)", x.count(2), 5);
        check.due("count(3)", x.count(3), 1);
        check.due("count(4)", x.count(4), 5);
        LoadBalancer full = Scenes.withServers(10);
        full.setSticky(1);
        for (int i = 0; i < 200; i++) {
            full.open(i);
        }
        check.due("200 active ones", full.count(1), 200);
        check.due("200 opened ones", full.count(2), 200);
        check.due("40 clients", full.count(4), 40);
    }

    private static void countRange() {
        check.sentence("Throws `IllegalArgumentException` if what is out of range");
        LoadBalancer x = new LoadBalancer();
        for (int what : new int[] {LOW, -1, 5, 6, HIGH}) {
            check.dueArgument("count(" + what + ")", () -> x.count(what));
        }
        check.due("count(0)", x.count(0), 0);
        check.due("count(4)", x.count(4), 0);
    }

    private static void saveEverything() {
        check.sentence("Saves everything (also the seed and all connections) in a slot");
        for (int policy = 0; policy <= 4; policy++) {
            for (int slot = 0; slot <= 1; slot++) {
                for (int probe = 0; probe < Probes.COUNT; probe++) {
                    LoadBalancer untouched = Probes.busy(policy);
                    LoadBalancer x = savedAndRestored(policy, slot);
                    check.due("rejections", x.count(3), untouched.count(3));
                    check.due("policy " + policy + ", slot " + slot + ", probe " + probe, Probes.run(probe, x),
                        Probes.run(probe, untouched));
                }
            }
        }
        allConnections();
    }

    /** Between the save and the restore the balancer is a wholly different one. */
    private static LoadBalancer savedAndRestored(int policy, int slot) {
        LoadBalancer x = new LoadBalancer();
        x.save(1 - slot);
        Probes.makeBusy(x, policy);
        x.save(slot);
        x.restore(1 - slot);
        Probes.makeOtherwiseBusy(x);
        x.restore(slot);
        return x;
    }

    /** Needs more than the 512 calls for which the document speaks. */
    private static void allConnections() {
        LoadBalancer x = Scenes.withServers(2);
        for (int i = 0; i < 1000; i++) {
            x.close(x.open(i), true);
        }
        x.save(0);
        x.restore(0);
        check.due("1000 connections", x.count(2), 1000);
        check.due("the last one", x.serverOf(999), 1);
        check.dueState("it is closed", () -> x.close(999, true));
    }

    private static void saveOverwrites() {
        check.sentence("and overwrites what was saved there.");
        LoadBalancer small = Scenes.withServers(1);
        small.save(0);
        small.addServer(3, 4);
        small.save(0);
        small.restore(0);
        check.due("the later one", small.servers(), 2);
        small.addServer(3, 4);
        small.save(1);
        small.restore(0);
        check.due("the other slot stays", small.servers(), 2);
        small.restore(1);
        check.due("slot 1", small.servers(), 3);
        LoadBalancer shrinks = new LoadBalancer();
        shrinks.save(0);
        shrinks.addServer(1, 20);
        shrinks.setSticky(5);
        shrinks.open(1);
        shrinks.save(1);
        shrinks.restore(0);
        shrinks.save(1);
        shrinks.addServer(1, 20);
        shrinks.restore(1);
        check.due("an empty one over a full one", Scenes.picture(shrinks), Scenes.picture(new LoadBalancer()));
    }

    private static void saveRange() {
        check.sentence("Throws `IllegalArgumentException` if there is no such slot");
        LoadBalancer x = Scenes.withServers(1);
        for (int slot : new int[] {LOW, -1, 2, 3, HIGH}) {
            check.dueArgument("save(" + slot + ")", () -> x.save(slot));
        }
        check.dueState("restore(0)", () -> x.restore(0));
        check.dueState("restore(1)", () -> x.restore(1));
        x.save(0);
        x.save(1);
        x.restore(0);
        x.restore(1);
        check.due("both slots are there", x.servers(), 1);
    }

    private static void restoreKeeps() {
        check.sentence("Restores what was saved last in a slot, which keeps it.");
        for (int slot = 0; slot <= 1; slot++) {
            LoadBalancer x = Scenes.withServers(2);
            x.setSticky(9);
            x.open(1);
            x.save(slot);
            String saved = Scenes.picture(x);
            for (int round = 0; round < 4; round++) {
                x.open(2);
                x.close(0, false);
                x.tick(9);
                x.setWeight(0, 10);
                x.addServer(1, 1);
                Scenes.fail(x, 1);
                x.restore(slot);
                check.due("round " + round, Scenes.picture(x), saved);
            }
            x.restore(slot);
            check.due("twice in a row", Scenes.picture(x), saved);
            x.tick(1);
            x.save(slot);
            x.tick(1);
            x.restore(slot);
            check.due("what was saved last", x.count(0), 1);
        }
    }

    private static void restoreRange() {
        check.sentence("Throws `IllegalArgumentException` if there is no such slot");
        LoadBalancer x = Scenes.withServers(1);
        for (int slot : new int[] {LOW, -1, 2, 3, HIGH}) {
            check.dueArgument("restore(" + slot + "), nothing saved", () -> x.restore(slot));
        }
        x.save(0);
        x.save(1);
        x.addServer(1, 1);
        for (int slot : new int[] {LOW, -1, 2, 3, HIGH}) {
            check.dueArgument("restore(" + slot + ")", () -> x.restore(slot));
        }
        check.due("nothing was restored", x.servers(), 2);
    }

    private static void restoreNothing() {
        check.sentence("Throws `IllegalStateException` if nothing was saved in it");
        LoadBalancer x = Scenes.withServers(1);
        check.dueState("restore(0)", () -> x.restore(0));
        check.dueState("restore(1)", () -> x.restore(1));
        x.save(1);
        check.dueState("restore(0), slot 1 is saved", () -> x.restore(0));
        x.addServer(1, 1);
        x.restore(1);
        check.due("restore(1)", x.servers(), 1);
        check.dueState("restore(0), slot 1 is restored", () -> x.restore(0));
        LoadBalancer y = new LoadBalancer();
        y.save(0);
        check.dueState("restore(1), slot 0 is saved", () -> y.restore(1));
        y.restore(0);
        check.due("a new object can be saved", y.servers(), 0);
    }
}
