/** Promises 13 to 17: tick, preview, open, close, serverOf. */
public final class ConnectionsTest {
    private static final Check check = new Check("ConnectionsTest");

    public static void main(String[] args) {
        tick();
        tickWrong();
        previewChangesNothing();
        previewTellsWhatOpenUses();
        open();
        openWithoutServers();
        openAtTheLimit();
        close();
        closeWrong();
        serverOf();
        check.end();
    }

    private static void tick() {
        LoadBalancer x = Scenes.withServers(1);
        check.due("13: tick(1)", x.tick(1), 1);
        check.due("13: tick(200)", x.tick(200), 201);
        check.due("13: count(0)", x.count(0), 201);
        Scenes.tripBreaker(x);
        check.due("13: tick(4)", x.tick(4), 205);
        check.due("13: the breaker is OPEN for 5 ticks", x.breaker(0), LoadBalancer.OPEN);
        check.due("13: tick(1)", x.tick(1), 206);
        check.due("13: it becomes HALF_OPEN in the tick", x.breaker(0), LoadBalancer.HALF_OPEN);
        Scenes.useOnce(x, false);
        x.tick(200);
        check.due("13: it becomes HALF_OPEN in a later tick of the call", x.breaker(0), LoadBalancer.HALF_OPEN);
    }

    private static void tickWrong() {
        LoadBalancer x = Scenes.withServers(1);
        for (int n : new int[] {0, 201, -1, Integer.MIN_VALUE, Integer.MAX_VALUE}) {
            check.dueArgument("13: tick(" + n + ")", () -> x.tick(n));
        }
        check.due("13: the time after wrong calls", x.count(0), 0);
    }

    private static void previewChangesNothing() {
        for (int policy = 0; policy <= 4; policy++) {
            LoadBalancer x = Scenes.withServers(3);
            LoadBalancer same = Scenes.withServers(3);
            x.setPolicy(policy);
            same.setPolicy(policy);
            for (int i = 0; i < 30; i++) {
                x.preview(i);
                x.preview(-i);
                check.due("14: policy " + policy + ", open after previews", Scenes.place(x, i), Scenes.place(same, i));
            }
            check.due("14: the seed after previews", x.setSeed(0), same.setSeed(0));
            check.due("14: no rejection is counted", x.count(3), 0);
        }
    }

    private static void previewTellsWhatOpenUses() {
        for (int policy = 0; policy <= 4; policy++) {
            LoadBalancer x = Scenes.withServers(4);
            x.setPolicy(policy);
            x.setSticky(policy == 2 ? 0 : 3);
            for (int i = 0; i < 60; i++) {
                int client = i * 7 % 11;
                int expected = x.preview(client);
                check.due("14: policy " + policy + ", open uses the previewed server", Scenes.place(x, client), expected);
                x.tick(1);
            }
        }
        LoadBalancer x = Scenes.withServers(1);
        x.setDraining(0, true);
        check.due("14: NONE", x.preview(3), LoadBalancer.NONE);
        check.due("14: no rejection by NONE", x.count(3), 0);
    }

    private static void open() {
        LoadBalancer x = Scenes.withServers(2);
        for (int i = 0; i < 40; i++) {
            check.due("15: open, the number", x.open(Integer.MIN_VALUE + i), i);
            check.due("15: opened connections", x.count(2), i + 1);
            check.due("15: active connections", x.count(1), i + 1);
        }
        check.dueState("15: open, all servers full", () -> x.open(1));
        check.dueState("15: open, all servers full", () -> x.open(2));
        check.due("15: rejections", x.count(3), 2);
        check.due("15: a rejected one has no number", x.count(2), 40);
        x.close(5, true);
        check.due("15: open, a number is not used twice", x.open(3), 40);
        check.due("15: it has the server with room", x.serverOf(40), 1);
    }

    private static void openWithoutServers() {
        LoadBalancer x = new LoadBalancer();
        x.setSticky(10);
        for (int policy = 0; policy <= 4; policy++) {
            x.setPolicy(policy);
            check.due("14: preview without servers", x.preview(1), LoadBalancer.NONE);
            check.dueState("15: open without servers", () -> x.open(1));
            check.due("15: rejections", x.count(3), policy + 1);
        }
        check.due("15: a rejected client is not remembered", x.count(4), 0);
        check.due("15: a rejection draws nothing", x.setSeed(1), 1);
    }

    /** Needs more than the 512 calls for which the document speaks; this class keeps the limit there as well. */
    private static void openAtTheLimit() {
        LoadBalancer x = Scenes.withServers(1);
        for (int i = 0; i < 1000; i++) {
            check.due("15: open, the number", Scenes.useOnce(x, true), i);
        }
        check.due("14: preview after 1000", x.preview(1), LoadBalancer.NONE);
        check.dueState("15: open, the 1001st", () -> x.open(1));
        check.due("15: rejections", x.count(3), 1);
        check.due("15: opened connections", x.count(2), 1000);
        check.due("17: serverOf(999)", x.serverOf(999), 0);
        check.dueIndex("17: serverOf(1000)", () -> x.serverOf(1000));
        check.dueIndex("16: close(1000, true)", () -> x.close(1000, true));
    }

    private static void close() {
        LoadBalancer x = Scenes.withServers(2);
        x.tick(3);
        x.open(1);
        x.open(1);
        x.open(1);
        check.due("16: close at once", x.close(1, true), 0);
        check.due("16: one connection less", x.active(1), 0);
        check.due("16: the other server's stay", x.active(0), 2);
        x.tick(7);
        check.due("16: close after 7 ticks", x.close(0, false), 7);
        x.tick(200);
        check.due("16: close after 207 ticks", x.close(2, false), 207);
        check.due("16: active connections", x.count(1), 0);
        check.due("16: opened connections", x.count(2), 3);
    }

    private static void closeWrong() {
        LoadBalancer x = Scenes.withServers(1);
        check.dueIndex("16: close(0, true), none was opened", () -> x.close(0, true));
        x.open(1);
        x.open(1);
        x.close(0, true);
        for (int i = 0; i < 5; i++) {
            check.dueState("16: close(0, false), closed already", () -> x.close(0, false));
        }
        for (int connection : new int[] {-1, 2, 1000, Integer.MIN_VALUE, Integer.MAX_VALUE}) {
            check.dueIndex("16: close(" + connection + ", true)", () -> x.close(connection, true));
        }
        check.due("16: active after wrong calls", x.active(0), 1);
        check.due("16: no result by wrong calls", x.breaker(0), LoadBalancer.CLOSED);
    }

    private static void serverOf() {
        LoadBalancer x = Scenes.withServers(3);
        for (int i = 0; i < 7; i++) {
            x.open(i);
            check.due("17: serverOf", x.serverOf(i), i % 3);
        }
        x.close(4, true);
        x.setDraining(1, true);
        check.due("17: serverOf of a closed one", x.serverOf(4), 1);
        for (int connection : new int[] {-1, 7, 1000, Integer.MIN_VALUE, Integer.MAX_VALUE}) {
            check.dueIndex("17: serverOf(" + connection + ")", () -> x.serverOf(connection));
        }
    }
}
