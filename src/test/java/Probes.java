/**
 * Runs of calls that bring to light what a balancer keeps, also what no query tells at once: counts of checks, results,
 * credits, the last server, remembered clients and their times. Two balancers that are alike answer each probe alike. A
 * probe changes the balancer, so each one needs a balancer of its own.
 */
final class Probes {
    static final int COUNT = 10;

    private Probes() {
    }

    /** A balancer with something in every place. */
    static LoadBalancer busy(int policy) {
        LoadBalancer x = new LoadBalancer();
        makeBusy(x, policy);
        return x;
    }

    /** Gives a new balancer ten servers, 40 clients, breakers of every kind and a rejection. */
    static void makeBusy(LoadBalancer x, int policy) {
        opens(x, 0);
        int[] weights = {5, 1, 10, 3, 2, 7, 1, 4, 6, 8};
        int[] capacities = {4, 20, 3, 20, 5, 6, 1, 20, 2, 9};
        for (int i = 0; i < 10; i++) {
            x.addServer(weights[i], capacities[i]);
        }
        x.setThresholds(3, 4);
        x.setSlowStart(20);
        x.setCool(7);
        x.setSticky(30);
        x.setSeed(4711);
        makeBreakersBusy(x);
        makeHealthBusy(x);
        x.setDraining(9, true);
        x.setPolicy(policy);
        fillWithClients(x);
    }

    /** Client i sticks to server i from here on, so that its connections can be used for this server's breaker. */
    private static void makeBreakersBusy(LoadBalancer x) {
        for (int client = 0; client < 10; client++) {
            x.open(client);
        }
        results(x, 1, "----");
        results(x, 2, "----");
        x.tick(4);
        results(x, 0, "----");
        x.tick(3);
        // Server 0 is OPEN for 3 ticks, 1 is HALF_OPEN, 2 is HALF_OPEN with its connection, 3 and 4 have results.
        x.open(2);
        results(x, 3, "-++");
        results(x, 4, "+++-+--+++");
    }

    private static void results(LoadBalancer x, int client, String results) {
        for (int i = 0; i < results.length(); i++) {
            x.close(x.open(client), results.charAt(i) == '+');
        }
    }

    /** Server 5 is in a slow start, 7 has failed checks, and 8 is unhealthy with successful ones. */
    private static void makeHealthBusy(LoadBalancer x) {
        reports(x, 5, false, 4);
        reports(x, 5, true, 3);
        reports(x, 7, false, 2);
        reports(x, 8, false, 4);
        reports(x, 8, true, 2);
    }

    private static void reports(LoadBalancer x, int server, boolean passed, int count) {
        for (int i = 0; i < count; i++) {
            x.report(server, passed);
        }
    }

    /** Server 1 is left out, so that it stays HALF_OPEN without a connection. */
    private static void fillWithClients(LoadBalancer x) {
        x.setDraining(1, true);
        for (int i = 0; i < 33; i++) {
            x.open(100 + i);
            if (i % 10 == 9) {
                x.tick(1);
            }
        }
        x.setDraining(1, false);
        for (int connection = 45; connection < 50; connection++) {
            x.close(connection, true);
        }
    }

    /**
     * Gives a new balancer something else in every place where busy() has something: ten other servers, all
     * recovered, draining and in use and some tripped, other clients, and other connections under the same numbers.
     */
    static void makeOtherwiseBusy(LoadBalancer x) {
        x.tick(100);
        for (int i = 0; i < 10; i++) {
            x.addServer(10 - i, 18);
        }
        x.setThresholds(1, 1);
        x.setSlowStart(50);
        x.setCool(1);
        x.setSticky(100);
        x.setSeed(-5);
        x.setPolicy(LoadBalancer.WEIGHTED);
        for (int i = 0; i < 70; i++) {
            x.open(132 - i);
        }
        for (int server = 0; server < 10; server++) {
            x.report(server, false);
            x.report(server, true);
            x.setDraining(server, true);
        }
        x.setThresholds(9, 9);
        for (int i = 0; i < 24; i++) {
            x.close(i, false);
        }
        for (int server = 0; server < 10; server++) {
            x.report(server, false);
        }
        opens(x, 500);
        opens(x, 501);
        // Servers 0 to 2 become HALF_OPEN, and server 1 accepts its connection.
        x.tick(1);
        x.setDraining(1, false);
        opens(x, 502);
        x.setDraining(1, true);
    }

    static String run(int probe, LoadBalancer x) {
        StringBuilder text = new StringBuilder();
        switch (probe) {
            case 0: settings(x, text); break;
            case 1: health(x, false, text); break;
            case 2: health(x, true, text); break;
            case 3: ends(x, false, text); break;
            case 4: ends(x, true, text); break;
            case 5: selections(x, text); break;
            case 6: clients(x, text); break;
            case 7: slowStart(x, text); break;
            case 8: stickiness(x, text); break;
            default: newServers(x, text); break;
        }
        return text.toString();
    }

    /** The server of a new connection of the client, or x if it is rejected. */
    private static String opens(LoadBalancer x, int client) {
        try {
            return " " + x.serverOf(x.open(client));
        } catch (IllegalStateException e) {
            return " x";
        }
    }

    /** The ticks of a connection, or x if it can't be closed. */
    private static String closes(LoadBalancer x, int connection, boolean good) {
        try {
            return " " + x.close(connection, good);
        } catch (IllegalStateException | IndexOutOfBoundsException e) {
            return " x";
        }
    }

    /** Rejections are left out, since a refused open counts one: whoever compares asks for them. */
    private static void settings(LoadBalancer x, StringBuilder text) {
        int rejections = x.count(3);
        text.append(Scenes.picture(x).replaceFirst("^(\\d+ \\d+ \\d+ )" + rejections, "$1"));
        for (int server = 0; server < x.servers(); server++) {
            text.append(" ").append(x.setDraining(server, false)).append(x.setWeight(server, 1));
        }
        text.append(" ").append(x.setSlowStart(0)).append(" ").append(x.setCool(1)).append(" ").append(x.setSticky(0))
            .append(" ").append(x.setPolicy(0)).append(" ").append(x.setSeed(0));
    }

    private static void health(LoadBalancer x, boolean first, StringBuilder text) {
        for (int server = 0; server < x.servers(); server++) {
            for (int i = 0; i < 20; i++) {
                text.append(x.report(server, i < 10 == first) ? '+' : '-');
            }
        }
    }

    private static void ends(LoadBalancer x, boolean good, StringBuilder text) {
        int opened = x.count(2);
        for (int connection = 0; connection < opened; connection++) {
            text.append(closes(x, connection, good)).append(x.breaker(x.serverOf(connection)));
        }
        for (int i = 0; i < 8; i++) {
            text.append(" ").append(x.tick(1)).append(" ");
            for (int server = 0; server < x.servers(); server++) {
                text.append(x.breaker(server));
            }
        }
    }

    private static void selections(LoadBalancer x, StringBuilder text) {
        for (int server = 0; server < x.servers(); server++) {
            x.setDraining(server, false);
        }
        for (int i = 0; i < 60; i++) {
            text.append(opens(x, 1000 + i)).append(" ").append(x.preview(i));
        }
        text.append(" ").append(x.setSeed(0));
    }

    private static void clients(LoadBalancer x, StringBuilder text) {
        x.setSticky(100);
        x.setPolicy(LoadBalancer.LEAST_CONNECTIONS);
        for (int round = 0; round < 4; round++) {
            for (int client = 0; client < 10; client++) {
                text.append(" ").append(x.preview(client));
            }
            for (int client = 100; client < 133; client++) {
                text.append(" ").append(x.preview(client));
            }
            text.append(opens(x, -1 - round)).append(" ").append(x.count(4));
        }
    }

    private static void slowStart(LoadBalancer x, StringBuilder text) {
        for (int i = 0; i < 21; i++) {
            text.append(" ").append(x.tick(1)).append(":");
            for (int server = 0; server < x.servers(); server++) {
                text.append(" ").append(x.effectiveWeight(server));
            }
        }
    }

    /** Goes through the ticks in which the clients of busy() cease to be sticky. */
    private static void stickiness(LoadBalancer x, StringBuilder text) {
        x.tick(18);
        for (int i = 0; i < 14; i++) {
            text.append(" ").append(x.tick(1)).append(":");
            for (int client : new int[] {0, 2, 3, 4, 5, 7, 100, 109, 110, 119, 120, 129, 130, 132}) {
                text.append(" ").append(x.preview(client));
            }
        }
    }

    /** A server that comes now shows FALL, RISE, W and COOL, and that nothing else stands in its place. */
    private static void newServers(LoadBalancer x, StringBuilder text) {
        int server = x.servers();
        if (server < 10) {
            text.append(x.addServer(10, 20)).append(" ");
            for (int i = 0; i < 20; i++) {
                text.append(x.report(server, i >= 10) ? '+' : '-');
            }
            text.append(" ").append(x.effectiveWeight(server)).append(" ").append(x.setPolicy(0));
            Scenes.drainAllBut(x, server, true);
            for (int i = 0; i < 4; i++) {
                text.append(opens(x, i)).append(closes(x, x.count(2) - 1, false));
            }
        }
        for (int i = 0; i < 12; i++) {
            text.append(" ").append(x.tick(1)).append(opens(x, i)).append(" ").append(x.count(4));
        }
    }
}
