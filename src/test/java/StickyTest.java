/** The sticky clients of the description, which promises 10, 14, 15 and 24 use. */
public final class StickyTest {
    private static final Check check = new Check("StickyTest");

    public static void main(String[] args) {
        staysForSTicks();
        latestConnectionCounts();
        onlyWhileAvailable();
        policyStaysUnused();
        forgetsTheOldest();
        forgetsTheSmallestOfSeveral();
        aKnownClientForgetsNobody();
        stickyConnectionTriesTheBreaker();
        check.end();
    }

    private static void staysForSTicks() {
        LoadBalancer x = Scenes.withServers(3);
        x.setSticky(4);
        check.due("15: the first connection", Scenes.place(x, 7), 0);
        check.due("14: another client", x.preview(8), 1);
        x.tick(3);
        check.due("14: 3 ticks ago", x.preview(7), 0);
        x.tick(1);
        check.due("14: 4 ticks ago", x.preview(7), 1);
    }

    private static void latestConnectionCounts() {
        LoadBalancer x = Scenes.withServers(3);
        x.setSticky(4);
        x.open(7);
        x.tick(3);
        check.due("15: sticky", Scenes.place(x, 7), 0);
        x.tick(3);
        check.due("15: sticky by the latest one", Scenes.place(x, 7), 0);
        x.tick(4);
        check.due("15: by the policy", Scenes.place(x, 7), 1);
        x.tick(3);
        check.due("15: sticky to the new server", Scenes.place(x, 7), 1);
        x.close(0, true);
        check.due("15: a closed one does not matter", x.preview(7), 1);
        check.due("24: one client", x.count(4), 1);
    }

    private static void onlyWhileAvailable() {
        LoadBalancer x = new LoadBalancer();
        x.addServer(1, 2);
        x.addServer(1, 2);
        x.setSticky(100);
        check.due("15: sticky until it is full", Scenes.placeMany(x, 3), "001");
        x.close(0, true);
        check.due("15: sticky to the latest server", Scenes.place(x, 0), 1);
        check.due("15: it is full, too", Scenes.place(x, 0), 0);
        x.close(2, true);
        x.setDraining(0, true);
        check.due("14: a draining server", x.preview(0), 1);
        x.setDraining(0, false);
        check.due("14: remembered while it was not available", x.preview(1), 1);
    }

    private static void policyStaysUnused() {
        LoadBalancer x = Scenes.withServers(2);
        x.setSticky(100);
        check.due("15: round robin", Scenes.place(x, 7), 0);
        check.due("15: sticky", Scenes.place(x, 7), 0);
        check.due("15: another", Scenes.place(x, 8), 1);
        check.due("15: sticky again", Scenes.place(x, 7), 0);
        check.due("14: the last server stayed", x.preview(9), 0);
        x.setPolicy(LoadBalancer.WEIGHTED);
        check.due("15: sticky in WEIGHTED", Scenes.place(x, 7), 0);
        check.due("15: the credits stayed", Scenes.place(x, 9), 0);
        check.due("15: the credits changed", Scenes.place(x, 10), 1);
        x.setPolicy(LoadBalancer.TWO_CHOICES);
        check.due("15: sticky in TWO_CHOICES", Scenes.place(x, 8), 1);
        check.due("15: the seed stayed", x.setSeed(1), 1);
    }

    private static LoadBalancer withManyClients(int clients) {
        LoadBalancer x = Scenes.withServers(10);
        x.setSticky(100);
        for (int i = 0; i < clients; i++) {
            x.open(i);
        }
        return x;
    }

    private static void forgetsTheOldest() {
        LoadBalancer x = Scenes.withServers(10);
        x.setSticky(100);
        for (int i = 0; i < 40; i++) {
            x.open(100 - i);
            x.tick(1);
        }
        sendNewClientsTo9(x);
        check.due("24: 40 clients", x.count(4), 40);
        check.due("15: client 100 again", Scenes.place(x, 100), 0);
        check.due("15: a further client", Scenes.place(x, -5), 9);
        check.due("24: 40 clients still", x.count(4), 40);
        check.due("14: client 99 is forgotten", x.preview(99), 9);
        check.due("14: client 100 is remembered", x.preview(100), 0);
        check.due("14: client 98 is remembered", x.preview(98), 2);
        check.due("15: a further client", Scenes.place(x, 200), 9);
        check.due("14: client 98 is forgotten next", x.preview(98), 9);
        check.due("14: client 97 is remembered", x.preview(97), 3);
        check.due("15: client 99 comes anew", Scenes.place(x, 99), 9);
        check.due("14: client 97 is forgotten then", x.preview(97), 9);
        check.due("14: client 96 is remembered", x.preview(96), 4);
    }

    /** Of 40 connections that went round over 10 servers, ends those of server 9, so that it has the fewest. */
    private static void sendNewClientsTo9(LoadBalancer x) {
        x.setPolicy(LoadBalancer.LEAST_CONNECTIONS);
        for (int connection = 9; connection < 40; connection += 10) {
            x.close(connection, true);
        }
    }

    private static void forgetsTheSmallestOfSeveral() {
        LoadBalancer x = Scenes.withServers(10);
        x.setSticky(100);
        x.open(3);
        x.open(-2000000000);
        x.open(2000000000);
        for (int i = 0; i < 37; i++) {
            x.open(10 + i);
        }
        sendNewClientsTo9(x);
        x.open(1000);
        check.due("14: client -2000000000 is forgotten", x.preview(-2000000000), 9);
        check.due("14: client 3 is remembered", x.preview(3), 0);
        check.due("14: client 2000000000 is remembered", x.preview(2000000000), 2);
        x.open(-7);
        check.due("14: client 3 is forgotten next", x.preview(3), 9);
        check.due("14: client 10 is remembered", x.preview(10), 3);
        x.setDraining(9, true);
        x.open(-8);
        x.setDraining(9, false);
        check.due("14: client -7 is forgotten before client 10", x.preview(10), 3);
        check.due("14: the further client itself is remembered", x.preview(-8), 0);
    }

    private static void aKnownClientForgetsNobody() {
        LoadBalancer x = withManyClients(40);
        x.open(39);
        x.open(0);
        check.due("24: 40 clients", x.count(4), 40);
        for (int i = 0; i < 40; i++) {
            check.due("14: client " + i + " is remembered", x.preview(i), i % 10);
        }
    }

    private static void stickyConnectionTriesTheBreaker() {
        LoadBalancer x = Scenes.withServers(2);
        x.setSticky(100);
        x.setDraining(1, true);
        Scenes.tripBreaker(x);
        x.setDraining(1, false);
        x.tick(5);
        check.due("15: sticky to a HALF_OPEN server", Scenes.place(x, 0), 0);
        check.due("18: that was its one connection", x.isAvailable(0), false);
        check.due("14: the next by the policy", x.preview(0), 1);
        x.close(4, true);
        check.due("22: CLOSED by it", x.breaker(0), LoadBalancer.CLOSED);
    }
}
