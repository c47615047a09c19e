/** Balancers in states that several tests begin with. */
final class Scenes {
    private Scenes() {
    }

    /** A balancer with as many servers as are asked for, each with weight 1 and capacity 20. */
    static LoadBalancer withServers(int servers) {
        LoadBalancer x = new LoadBalancer();
        for (int i = 0; i < servers; i++) {
            x.addServer(1, 20);
        }
        return x;
    }

    /** Opens a connection for client 0 and closes it at once with the result; returns its number. */
    static int useOnce(LoadBalancer x, boolean good) {
        int connection = x.open(0);
        x.close(connection, good);
        return connection;
    }

    /** Makes the breaker of the only available server OPEN. */
    static void tripBreaker(LoadBalancer x) {
        for (int i = 0; i < 4; i++) {
            useOnce(x, false);
        }
    }

    /** Opens a connection and returns its server. */
    static int place(LoadBalancer x, int client) {
        return x.serverOf(x.open(client));
    }

    /** The servers of the next connections of client 0, as digits. */
    static String placeMany(LoadBalancer x, int connections) {
        StringBuilder servers = new StringBuilder();
        for (int i = 0; i < connections; i++) {
            servers.append(place(x, 0));
        }
        return servers.toString();
    }

    /** Opens connections of client 0 to this server alone; no server may be draining, and none is afterwards. */
    static void load(LoadBalancer x, int server, int connections) {
        drainAllBut(x, server, true);
        for (int i = 0; i < connections; i++) {
            x.open(0);
        }
        drainAllBut(x, server, false);
    }

    static void drainAllBut(LoadBalancer x, int server, boolean draining) {
        for (int i = 0; i < x.servers(); i++) {
            if (i != server) {
                x.setDraining(i, draining);
            }
        }
    }

    /** Makes a server unhealthy and healthy again, with the thresholds of a new object. */
    static void recover(LoadBalancer x, int server) {
        fail(x, server);
        x.report(server, true);
        x.report(server, true);
    }

    /** Makes a healthy server unhealthy, with the thresholds of a new object. */
    static void fail(LoadBalancer x, int server) {
        for (int i = 0; i < 3; i++) {
            x.report(server, false);
        }
    }

    /** All that the queries tell, in a text; changes nothing. */
    static String picture(LoadBalancer x) {
        StringBuilder text = new StringBuilder();
        for (int what = 0; what <= 4; what++) {
            text.append(x.count(what)).append(' ');
        }
        for (int s = 0; s < x.servers(); s++) {
            text.append("| ").append(x.isAvailable(s)).append(' ').append(x.effectiveWeight(s)).append(' ')
                .append(x.active(s)).append(' ').append(x.utilization(s)).append(' ').append(x.breaker(s)).append(' ');
        }
        text.append("| ");
        for (int c = 0; c < x.count(2); c++) {
            text.append(x.serverOf(c)).append(' ');
        }
        for (int client = -2; client <= 2; client++) {
            text.append("| ").append(x.preview(client)).append(' ').append(x.servers() > 0 ? x.owner(client) : -9);
        }
        return text.toString();
    }
}
