/** The boundary cases of STICKY CLIENTS and CONNECTIONS in the description: a test for each sentence. */
public final class ClientBoundsTest {
    private static final Check check = new Check("ClientBoundsTest");
    private static final int LOW = Integer.MIN_VALUE;
    private static final int HIGH = Integer.MAX_VALUE;

    public static void main(String[] args) {
        durationFrom0To100();
        greaterThan0();
        lessThanSTicksAgo();
        theLatestConnection();
        itsServerIsAvailable();
        withoutThePolicy();
        atMost40();
        oldestIsForgotten();
        smallestOfSeveral();
        aKnownClientIsNoFurtherOne();
        staysRemembered();
        nothingWithS0();
        numberedFrom0();
        activeUntilClosed();
        atMost1000();
        check.end();
    }

    private static void durationFrom0To100() {
        check.sentence("There is a duration S from 0 to 100 ticks, at first 0.");
        LoadBalancer x = Scenes.withServers(2);
        check.due("at first not sticky", Scenes.placeMany(x, 2), "01");
        check.dueArgument("setSticky(-1)", () -> x.setSticky(-1));
        check.dueArgument("setSticky(101)", () -> x.setSticky(101));
        check.due("setSticky(100)", x.setSticky(100), 0);
        check.due("sticky", Scenes.placeMany(x, 2), "00");
        check.due("setSticky(0)", x.setSticky(0), 100);
        check.due("not sticky", Scenes.placeMany(x, 2), "10");
    }

    private static void greaterThan0() {
        check.sentence("If S is greater than 0");
        LoadBalancer x = Scenes.withServers(3);
        x.setSticky(0);
        check.due("S 0, in the same tick", Scenes.placeMany(x, 3), "012");
        x.setSticky(1);
        check.due("S 1, in the same tick", Scenes.placeMany(x, 3), "000");
        x.tick(1);
        check.due("S 1, in the next tick", x.preview(0), 1);
    }

    private static void lessThanSTicksAgo() {
        check.sentence("and the client's latest connection was opened less than S ticks ago");
        for (int duration : new int[] {1, 2, 50, 99, 100}) {
            LoadBalancer x = Scenes.withServers(2);
            x.setSticky(duration);
            x.tick(3);
            check.due("S " + duration + ", the first one", Scenes.place(x, 7), 0);
            if (duration > 1) {
                x.tick(duration - 1);
            }
            check.due("S " + duration + ", S - 1 ticks ago", x.preview(7), 0);
            x.tick(1);
            check.due("S " + duration + ", S ticks ago", x.preview(7), 1);
            x.tick(1);
            check.due("S " + duration + ", S + 1 ticks ago", x.preview(7), 1);
        }
    }

    private static void theLatestConnection() {
        check.sentence("the client's latest connection");
        LoadBalancer x = Scenes.withServers(3);
        x.setSticky(10);
        check.due("the first one", Scenes.place(x, 7), 0);
        x.setDraining(0, true);
        x.tick(9);
        check.due("the second one", Scenes.place(x, 7), 1);
        x.setDraining(0, false);
        x.tick(9);
        check.due("18 ticks after the first one, 9 after the second", x.preview(7), 1);
        x.close(1, true);
        check.due("its end does not count", x.preview(7), 1);
        check.due("other clients are not sticky", x.preview(8), 2);
        x.tick(1);
        check.due("10 ticks after the second one", x.preview(7), 2);
    }

    private static void itsServerIsAvailable() {
        check.sentence("and its server is available now, then this server is chosen");
        LoadBalancer x = new LoadBalancer();
        x.addServer(1, 1);
        x.addServer(1, 20);
        x.addServer(1, 20);
        x.setSticky(100);
        check.due("to server 0", Scenes.place(x, 7), 0);
        check.due("server 0 is full", x.preview(7), 1);
        x.close(0, true);
        check.due("server 0 has room", x.preview(7), 0);
        Scenes.fail(x, 0);
        check.due("server 0 is unhealthy", x.preview(7), 1);
        x.report(0, true);
        x.report(0, true);
        check.due("server 0 is healthy", x.preview(7), 0);
        x.setDraining(0, true);
        check.due("to server 1 meanwhile", Scenes.place(x, 7), 1);
        x.setDraining(0, false);
        check.due("server 0 is the older one", x.preview(7), 1);
        Scenes.drainAllBut(x, LoadBalancer.NONE, true);
        check.due("none is available", x.preview(7), LoadBalancer.NONE);
        LoadBalancer tripped = Scenes.withServers(2);
        tripped.setSticky(100);
        Scenes.tripBreaker(tripped);
        check.due("its breaker is OPEN", tripped.preview(0), 1);
        tripped.tick(5);
        check.due("its breaker is HALF_OPEN", Scenes.place(tripped, 0), 0);
        check.due("its breaker has its connection", tripped.preview(0), 1);
    }

    private static void withoutThePolicy() {
        check.sentence("without using the policy (so neither the last server, nor credits, nor the seed change).");
        LoadBalancer x = Scenes.withServers(3);
        x.setSticky(100);
        check.due("the last server is 1", Scenes.place(x, 7) + " " + Scenes.place(x, 8), "0 1");
        check.due("sticky to 0", Scenes.place(x, 7), 0);
        check.due("the last server is 1 still", x.preview(9), 2);
        x.setPolicy(LoadBalancer.WEIGHTED);
        check.due("credits -2 1 1", Scenes.place(x, 10), 0);
        check.due("sticky to 1", Scenes.place(x, 8), 1);
        check.due("sticky to 0", Scenes.place(x, 7), 0);
        // -1 2 2 -> -1 -1 2; 0 0 3 -> 0 0 0: had the sticky ones counted, server 2 would come first.
        check.due("credits -2 1 1 still", Scenes.place(x, 11) + " " + Scenes.place(x, 12), "1 2");
        x.setPolicy(LoadBalancer.TWO_CHOICES);
        x.setSeed(77);
        check.due("sticky to 0", Scenes.place(x, 7), 0);
        check.due("the seed is 77 still", x.setSeed(1), 77);
    }

    /** A balancer with ten servers and S 100; client i of the given ones went to server i % 10. */
    private static LoadBalancer withClients(int ticksBetween, int... clients) {
        LoadBalancer x = Scenes.withServers(10);
        x.setSticky(100);
        for (int client : clients) {
            x.open(client);
            if (ticksBetween > 0) {
                x.tick(ticksBetween);
            }
        }
        return x;
    }

    /** Numbers from first on, one less or more each. */
    private static int[] numbers(int first, int step, int count) {
        int[] numbers = new int[count];
        for (int i = 0; i < count; i++) {
            numbers[i] = first + i * step;
        }
        return numbers;
    }

    /** Whether each of the clients is sticky, + or -, when emptyServer9 sends all others to server 9. */
    private static String remembered(LoadBalancer x, int... clients) {
        StringBuilder text = new StringBuilder();
        for (int client : clients) {
            text.append(x.preview(client) == 9 ? '-' : '+');
        }
        return text.toString();
    }

    /** Opens a connection of the client and ends it at once. */
    private static void visit(LoadBalancer x, int client) {
        x.close(x.open(client), true);
    }

    /** Ends connections of server 9, so that the policy LEAST_CONNECTIONS sends every client there that is not sticky. */
    private static void emptyServer9(LoadBalancer x) {
        x.setPolicy(LoadBalancer.LEAST_CONNECTIONS);
        for (int connection = 9; connection < x.count(2); connection += 10) {
            x.close(connection, true);
        }
    }

    private static void atMost40() {
        check.sentence("At most 40 clients are remembered");
        LoadBalancer x = Scenes.withServers(10);
        x.setSticky(100);
        check.due("none at first", x.count(4), 0);
        for (int i = 1; i <= 40; i++) {
            x.open(i);
            check.due("client " + i, x.count(4), i);
        }
        for (int i = 41; i <= 45; i++) {
            x.open(i);
            check.due("client " + i, x.count(4), 40);
        }
        x.tick(200);
        x.open(46);
        check.due("client 46, after 200 ticks", x.count(4), 40);
    }

    private static void oldestIsForgotten() {
        check.sentence("if a connection of a further one is opened, the client whose latest connection is oldest is "
            + "forgotten");
        LoadBalancer full = withClients(1, numbers(500, -1, 39));
        emptyServer9(full);
        visit(full, 1000);
        check.due("the 40th drives nobody out", remembered(full, 500, 499), "++");
        LoadBalancer x = withClients(1, numbers(500, -1, 40));
        emptyServer9(x);
        visit(x, 1000);
        check.due("the 41st drives the first out", remembered(x, 500, 499, 498), "-++");
        // Client 499 comes again, so that client 498 is the one whose latest connection is oldest.
        visit(x, 499);
        visit(x, 1001);
        check.due("then the one that is oldest now", remembered(x, 500, 499, 498, 497), "-+-+");
        x.tick(1);
        visit(x, 500);
        check.due("a forgotten one is a further one", remembered(x, 499, 498, 497, 496), "+--+");
        check.due("count(4)", x.count(4), 40);
        oneAfterTheOther();
    }

    /** Every one of the 40 has its turn; those at server 9 can't be told from the others. */
    private static void oneAfterTheOther() {
        LoadBalancer x = withClients(1, numbers(500, -1, 40));
        emptyServer9(x);
        for (int i = 0; i < 39; i++) {
            int client = 500 - i;
            visit(x, 1000 - i);
            if (i % 10 < 8) {
                check.due("clients " + client + " and " + (client - 1), remembered(x, client, client - 1), "-+");
            }
        }
        visit(x, 2000);
        check.due("count(4)", x.count(4), 40);
    }

    private static void smallestOfSeveral() {
        check.sentence("of several the one with the smallest number.");
        int[] clients = numbers(100, 1, 40);
        clients[5] = LOW;
        clients[6] = -1;
        clients[7] = 0;
        clients[8] = HIGH;
        LoadBalancer x = withClients(0, clients);
        emptyServer9(x);
        // These come a tick later, so that none of them is among the oldest.
        x.tick(1);
        visit(x, -500);
        check.due("MIN_VALUE is the smallest", remembered(x, LOW, -1, 0, 100, 101, HIGH), "-+++++");
        visit(x, -501);
        check.due("then -1", remembered(x, LOW, -1, 0, 100, 101, HIGH), "--++++");
        visit(x, -502);
        check.due("then 0", remembered(x, LOW, -1, 0, 100, 101, HIGH), "---+++");
        visit(x, -503);
        check.due("then 100", remembered(x, LOW, -1, 0, 100, 101, HIGH), "----++");
        check.due("count(4)", x.count(4), 40);
        theFurtherOneIsTheSmallest();
    }

    /** The further one is not among those that are forgotten, even with the smallest number and in the same tick. */
    private static void theFurtherOneIsTheSmallest() {
        LoadBalancer x = withClients(0, numbers(100, 1, 40));
        emptyServer9(x);
        x.setDraining(9, true);
        x.open(LOW);
        x.setDraining(9, false);
        check.due("100 makes room for MIN_VALUE", remembered(x, LOW, 100, 101), "+-+");
    }

    private static void aKnownClientIsNoFurtherOne() {
        check.sentence("if a connection of a further one is opened");
        LoadBalancer x = withClients(0, numbers(0, 1, 40));
        x.tick(1);
        // From the youngest to the oldest, so that none of them stands where the oldest stands.
        for (int client : numbers(39, -1, 40)) {
            x.open(client);
            check.due("count(4)", x.count(4), 40);
        }
        x.setPolicy(LoadBalancer.ROUND_ROBIN);
        for (int i = 0; i < 40; i++) {
            check.due("client " + i + " is remembered", x.preview(i), i % 10);
        }
        check.due("count(4)", x.count(4), 40);
        Scenes.drainAllBut(x, LoadBalancer.NONE, true);
        check.dueState("a further one that is rejected", () -> x.open(99));
        Scenes.drainAllBut(x, LoadBalancer.NONE, false);
        check.due("drives nobody out", x.preview(0), 0);
        x.preview(99);
        check.due("nor does a preview", x.preview(0) + " " + x.count(4), "0 40");
    }

    private static void staysRemembered() {
        check.sentence("A client stays remembered when S ticks have passed.");
        LoadBalancer x = Scenes.withServers(3);
        x.setSticky(2);
        x.open(7);
        x.open(8);
        for (int ticks : new int[] {1, 1, 1, 50}) {
            x.tick(ticks);
            check.due("count(4) at " + x.count(0), x.count(4), 2);
        }
        check.due("53 ticks, S 2", x.preview(8), 2);
        x.setSticky(53);
        check.due("53 ticks, S 53", x.preview(8), 2);
        x.setSticky(54);
        check.due("53 ticks, S 54", x.preview(8), 1);
        LoadBalancer many = withClients(0, numbers(0, 1, 40));
        many.tick(200);
        many.open(50);
        check.due("they fill the 40 places", many.count(4), 40);
    }

    private static void nothingWithS0() {
        check.sentence("With S equal to 0 nothing is remembered, and what was remembered is forgotten.");
        LoadBalancer x = Scenes.withServers(3);
        x.open(7);
        check.due("S 0 at first", x.count(4), 0);
        x.setSticky(100);
        check.due("what came before S", x.preview(7), 1);
        x.open(7);
        x.open(8);
        check.due("S 100", x.count(4), 2);
        check.due("sticky to 1", x.preview(7), 1);
        x.setSticky(0);
        check.due("S 0", x.count(4), 0);
        x.open(9);
        check.due("S 0, one more", x.count(4), 0);
        x.setSticky(100);
        check.due("S 100 again", x.count(4), 0);
        check.due("client 7 is forgotten", x.preview(7), 1);
        x.setDraining(1, true);
        check.due("client 8 is forgotten", x.preview(8), 2);
        x.open(8);
        check.due("remembered anew", x.count(4), 1);
        LoadBalancer full = withClients(0, numbers(0, 1, 40));
        full.setSticky(0);
        check.due("40 are forgotten", full.count(4), 0);
    }

    private static void numberedFrom0() {
        check.sentence("connections are numbered from 0 in the order in which they are opened.");
        LoadBalancer x = Scenes.withServers(2);
        check.dueIndex("serverOf(0) before", () -> x.serverOf(0));
        check.due("the first", x.open(5), 0);
        check.due("the second", x.open(5), 1);
        x.close(1, true);
        x.close(0, true);
        check.due("the third, after all ended", x.open(5), 2);
        Scenes.drainAllBut(x, LoadBalancer.NONE, true);
        check.dueState("a rejected one", () -> x.open(5));
        Scenes.drainAllBut(x, LoadBalancer.NONE, false);
        check.due("the fourth, after a rejected one", x.open(5), 3);
        check.dueIndex("serverOf(4)", () -> x.serverOf(4));
    }

    private static void activeUntilClosed() {
        check.sentence("It is active until it is closed.");
        LoadBalancer x = Scenes.withServers(1);
        x.open(5);
        x.tick(200);
        Scenes.fail(x, 0);
        x.setDraining(0, true);
        check.due("active(0)", x.active(0), 1);
        check.due("count(1)", x.count(1), 1);
        check.due("close", x.close(0, true), 200);
        check.due("active(0), closed", x.active(0), 0);
        check.due("count(1), closed", x.count(1), 0);
    }

    /** Needs more than the 512 calls for which the document speaks; the class keeps the limit all the same. */
    private static void atMost1000() {
        check.sentence("At most 1000 connections can be opened.");
        LoadBalancer x = Scenes.withServers(1);
        x.setSticky(100);
        for (int i = 0; i < 999; i++) {
            Scenes.useOnce(x, true);
        }
        check.due("preview, 999 opened", x.preview(0), 0);
        check.due("the last one", x.open(0), 999);
        check.due("preview, 1000 opened", x.preview(0), LoadBalancer.NONE);
        check.dueState("one more", () -> x.open(0));
        check.due("count(3)", x.count(3), 1);
        check.due("count(2)", x.count(2), 1000);
        check.due("the server is available still", x.isAvailable(0), true);
        check.due("close(999, true)", x.close(999, true), 0);
        check.dueState("one more after an end", () -> x.open(0));
    }
}
