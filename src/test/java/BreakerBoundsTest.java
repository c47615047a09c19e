/** The boundary cases of CIRCUIT BREAKERS and AVAILABLE SERVERS in the description: a test for each sentence. */
public final class BreakerBoundsTest {
    private static final Check check = new Check("BreakerBoundsTest");

    public static void main(String[] args) {
        closedAtFirst();
        atMostEightResults();
        inPlaceOfTheOldest();
        atLeastFourResults();
        atLeastHalfOfThem();
        coolIsReached();
        coolAtFirst();
        oneConnection();
        endsWell();
        endsBadly();
        noEffectWhileOpen();
        noEffectOfOthersWhileHalfOpen();
        whileNotAvailable();
        fewerThanTheCapacity();
        healthyAndNotDraining();
        closedOrHalfOpen();
        check.end();
    }

    /** A balancer with one server whose connections ended one after the other, + well and - badly. */
    private static LoadBalancer afterResults(String results) {
        LoadBalancer x = Scenes.withServers(1);
        for (int i = 0; i < results.length(); i++) {
            check.due("CLOSED before result " + (i + 1) + " of " + results, x.breaker(0), LoadBalancer.CLOSED);
            Scenes.useOnce(x, results.charAt(i) == '+');
        }
        return x;
    }

    private static void dueAfter(String results, int breaker) {
        check.due("breaker(0) after " + results, afterResults(results).breaker(0), breaker);
    }

    private static LoadBalancer halfOpen() {
        LoadBalancer x = Scenes.withServers(1);
        Scenes.tripBreaker(x);
        x.tick(5);
        return x;
    }

    private static void closedAtFirst() {
        check.sentence("Each server has a breaker, which is CLOSED, OPEN or HALF_OPEN, at first CLOSED");
        LoadBalancer x = Scenes.withServers(10);
        for (int i = 0; i < 10; i++) {
            check.due("breaker(" + i + ")", x.breaker(i), LoadBalancer.CLOSED);
        }
        x.tick(200);
        check.due("breaker(9) after ticks", x.breaker(9), LoadBalancer.CLOSED);
    }

    private static void atMostEightResults() {
        check.sentence("the results (good or bad) of its latest connections since the breaker became CLOSED, at most 8 of "
            + "them");
        // The bad one at the beginning is the eighth of the latest ones: with 7 results it would be gone.
        dueAfter("-++++---", LoadBalancer.OPEN);
        // 4 of the latest 8 are bad: with 9 results they would be fewer than half.
        dueAfter("+++++----", LoadBalancer.OPEN);
        // Good ones without an end do not help.
        dueAfter("++++++++++++++++++++----", LoadBalancer.OPEN);
    }

    private static void inPlaceOfTheOldest() {
        check.sentence("its result is added, in place of the oldest one if there are 8.");
        // The ninth result takes the place of the bad one at the beginning: 3 of 8.
        dueAfter("-+++++---", LoadBalancer.CLOSED);
        // It is the good one at the beginning whose place is taken, not the bad one behind it.
        dueAfter("+-++++---", LoadBalancer.OPEN);
        // Round the eight places three times, always with 3 of 8 bad: each bad one goes when its turn has come.
        String round = "+++-+--+";
        dueAfter(round + round + round + "+++-", LoadBalancer.CLOSED);
        dueAfter(round + round + round + "+++--", LoadBalancer.OPEN);
        dueAfter(round + round + round + "+++-+--+-", LoadBalancer.OPEN);
    }

    private static void atLeastFourResults() {
        check.sentence("If there are then at least 4 results");
        dueAfter("-", LoadBalancer.CLOSED);
        dueAfter("--", LoadBalancer.CLOSED);
        dueAfter("---", LoadBalancer.CLOSED);
        dueAfter("----", LoadBalancer.OPEN);
        dueAfter("---+", LoadBalancer.OPEN);
    }

    private static void atLeastHalfOfThem() {
        check.sentence("and at least half of them are bad, the breaker becomes OPEN.");
        dueAfter("++++", LoadBalancer.CLOSED);
        dueAfter("-+++", LoadBalancer.CLOSED);
        dueAfter("++--", LoadBalancer.OPEN);
        dueAfter("--++", LoadBalancer.OPEN);
        dueAfter("+++--", LoadBalancer.CLOSED);
        dueAfter("-+++-", LoadBalancer.CLOSED);
        dueAfter("+++---", LoadBalancer.OPEN);
        dueAfter("-+++-+-", LoadBalancer.CLOSED);
        dueAfter("-+++-+--", LoadBalancer.OPEN);
        dueAfter("++++++++---", LoadBalancer.CLOSED);
        dueAfter("++++++++----", LoadBalancer.OPEN);
    }

    private static void coolIsReached() {
        check.sentence("If COOL ticks have passed since the time at which it became OPEN, it becomes HALF_OPEN, in the tick "
            + "in which this number is reached.");
        for (int cool : new int[] {1, 2, 5, 49, 50}) {
            LoadBalancer x = Scenes.withServers(1);
            x.setCool(cool);
            x.tick(3);
            Scenes.tripBreaker(x);
            for (int i = 0; i < cool; i++) {
                check.due("COOL " + cool + ", " + i + " ticks", x.breaker(0), LoadBalancer.OPEN);
                x.tick(1);
            }
            check.due("COOL " + cool + ", reached", x.breaker(0), LoadBalancer.HALF_OPEN);
        }
        LoadBalancer x = Scenes.withServers(1);
        x.setCool(50);
        Scenes.tripBreaker(x);
        x.tick(49);
        check.due("49 ticks in one call", x.breaker(0), LoadBalancer.OPEN);
        x.tick(200);
        check.due("200 ticks in one call", x.breaker(0), LoadBalancer.HALF_OPEN);
    }

    private static void coolAtFirst() {
        check.sentence("COOL is 5 at first.");
        LoadBalancer x = Scenes.withServers(1);
        Scenes.tripBreaker(x);
        x.tick(4);
        check.due("4 ticks", x.breaker(0), LoadBalancer.OPEN);
        x.tick(1);
        check.due("5 ticks", x.breaker(0), LoadBalancer.HALF_OPEN);
        check.due("setCool(5)", x.setCool(5), 5);
    }

    private static void oneConnection() {
        check.sentence("While it is HALF_OPEN, the server accepts one connection, and no further one until this connection "
            + "has ended.");
        LoadBalancer x = halfOpen();
        check.due("it accepts one", x.preview(1), 0);
        int trial = x.open(1);
        check.due("breaker(0)", x.breaker(0), LoadBalancer.HALF_OPEN);
        check.due("no further one", x.preview(2), LoadBalancer.NONE);
        check.dueState("open(2)", () -> x.open(2));
        x.tick(200);
        check.due("nor after many ticks", x.preview(2), LoadBalancer.NONE);
        check.due("active(0)", x.active(0), 1);
        x.close(trial, true);
        check.due("when it has ended", x.preview(2), 0);
    }

    private static void endsWell() {
        check.sentence("When this connection ends well, the breaker becomes CLOSED, without results");
        LoadBalancer x = halfOpen();
        Scenes.useOnce(x, true);
        check.due("ended well", x.breaker(0), LoadBalancer.CLOSED);
        for (int i = 1; i <= 3; i++) {
            Scenes.useOnce(x, false);
            check.due("bad result " + i, x.breaker(0), LoadBalancer.CLOSED);
        }
        Scenes.useOnce(x, false);
        check.due("bad result 4", x.breaker(0), LoadBalancer.OPEN);
        LoadBalancer y = halfOpen();
        Scenes.useOnce(y, true);
        // Had the good end counted, the third one would be the fourth result, of which half are bad.
        Scenes.useOnce(y, false);
        Scenes.useOnce(y, false);
        Scenes.useOnce(y, true);
        check.due("its own result does not count", y.breaker(0), LoadBalancer.CLOSED);
        Scenes.useOnce(y, true);
        check.due("the fourth result", y.breaker(0), LoadBalancer.OPEN);
        LoadBalancer z = halfOpen();
        Scenes.useOnce(z, true);
        for (int i = 1; i <= 4; i++) {
            Scenes.useOnce(z, true);
            check.due("good result " + i + ", the bad ones from before are gone", z.breaker(0), LoadBalancer.CLOSED);
        }
        Scenes.useOnce(z, false);
        Scenes.useOnce(z, false);
        check.due("2 of 6", z.breaker(0), LoadBalancer.CLOSED);
    }

    private static void endsBadly() {
        check.sentence("when it ends badly, the breaker becomes OPEN anew.");
        LoadBalancer x = halfOpen();
        for (int round = 0; round < 3; round++) {
            int trial = x.open(1);
            x.tick(3);
            x.close(trial, false);
            check.due("ended badly", x.breaker(0), LoadBalancer.OPEN);
            x.tick(4);
            check.due("COOL begins anew", x.breaker(0), LoadBalancer.OPEN);
            x.tick(1);
            check.due("HALF_OPEN anew", x.breaker(0), LoadBalancer.HALF_OPEN);
            check.due("it accepts one anew", x.isAvailable(0), true);
        }
    }

    private static void noEffectWhileOpen() {
        check.sentence("Connections that end while the breaker is OPEN");
        LoadBalancer x = Scenes.withServers(1);
        for (int i = 0; i < 8; i++) {
            x.open(0);
        }
        Scenes.tripBreaker(x);
        x.tick(4);
        for (int i = 0; i < 8; i++) {
            x.close(i, i < 4);
            check.due("an end while OPEN", x.breaker(0), LoadBalancer.OPEN);
        }
        check.due("the connections ended", x.active(0), 0);
        x.tick(1);
        check.due("COOL did not begin anew", x.breaker(0), LoadBalancer.HALF_OPEN);
        Scenes.useOnce(x, true);
        Scenes.useOnce(x, true);
        check.due("the results did not count", x.breaker(0), LoadBalancer.CLOSED);
    }

    private static void noEffectOfOthersWhileHalfOpen() {
        check.sentence("and other connections that end while it is HALF_OPEN, have no effect on the breaker.");
        LoadBalancer x = Scenes.withServers(1);
        for (int i = 0; i < 8; i++) {
            x.open(0);
        }
        Scenes.tripBreaker(x);
        x.tick(5);
        for (int i = 0; i < 4; i++) {
            x.close(i, i % 2 == 0);
            check.due("before the one connection", x.breaker(0), LoadBalancer.HALF_OPEN);
            check.due("one is accepted still", x.isAvailable(0), true);
        }
        int trial = x.open(0);
        for (int i = 4; i < 8; i++) {
            x.close(i, i % 2 == 0);
            check.due("beside the one connection", x.breaker(0), LoadBalancer.HALF_OPEN);
            check.due("no further one is accepted", x.isAvailable(0), false);
        }
        x.close(trial, true);
        check.due("the one connection", x.breaker(0), LoadBalancer.CLOSED);
        Scenes.useOnce(x, true);
        check.due("the results did not count", x.breaker(0), LoadBalancer.CLOSED);
    }

    /** Neither draining nor the health has a part in the breaker. */
    private static void whileNotAvailable() {
        check.sentence("When a connection of a server ends while its breaker is CLOSED, its result is added");
        LoadBalancer x = Scenes.withServers(1);
        for (int i = 0; i < 4; i++) {
            x.open(0);
        }
        x.close(0, false);
        x.setDraining(0, true);
        x.close(1, false);
        Scenes.fail(x, 0);
        x.close(2, false);
        check.due("3 results", x.breaker(0), LoadBalancer.CLOSED);
        x.setDraining(0, false);
        x.close(3, true);
        check.due("4 results, of a draining and of an unhealthy server, too", x.breaker(0), LoadBalancer.OPEN);
        x.setDraining(0, true);
        x.tick(4);
        check.due("4 ticks", x.breaker(0), LoadBalancer.OPEN);
        x.tick(1);
        check.due("5 ticks, draining and unhealthy", x.breaker(0), LoadBalancer.HALF_OPEN);
        x.report(0, true);
        x.report(0, true);
        x.setDraining(0, false);
        check.due("HALF_OPEN stays when it is healthy by checks", x.breaker(0), LoadBalancer.HALF_OPEN);
        Scenes.useOnce(x, false);
        Scenes.recover(x, 0);
        check.due("so does OPEN", x.breaker(0), LoadBalancer.OPEN);
    }

    private static void fewerThanTheCapacity() {
        check.sentence("has fewer active connections than its capacity");
        for (int capacity : new int[] {1, 2, 19, 20}) {
            LoadBalancer x = new LoadBalancer();
            x.addServer(1, capacity);
            for (int i = 0; i < capacity; i++) {
                check.due("capacity " + capacity + ", " + i + " active", x.isAvailable(0), true);
                check.due("open", x.open(0), i);
            }
            check.due("capacity " + capacity + ", full", x.isAvailable(0), false);
            check.dueState("capacity " + capacity + ", open", () -> x.open(0));
            x.close(0, true);
            check.due("capacity " + capacity + ", one ended", x.isAvailable(0), true);
            x.open(0);
            check.due("capacity " + capacity + ", full again", x.isAvailable(0), false);
        }
    }

    private static void healthyAndNotDraining() {
        check.sentence("A server is available if it is healthy and not draining");
        LoadBalancer x = Scenes.withServers(1);
        x.setDraining(0, true);
        check.due("draining", x.isAvailable(0), false);
        Scenes.fail(x, 0);
        check.due("draining and unhealthy", x.isAvailable(0), false);
        x.setDraining(0, false);
        check.due("unhealthy", x.isAvailable(0), false);
        x.report(0, true);
        x.report(0, true);
        check.due("neither", x.isAvailable(0), true);
    }

    private static void closedOrHalfOpen() {
        check.sentence("and its breaker is CLOSED, or HALF_OPEN and it has not accepted a connection since it became "
            + "HALF_OPEN.");
        LoadBalancer x = Scenes.withServers(1);
        x.open(0);
        check.due("CLOSED with a connection", x.isAvailable(0), true);
        Scenes.tripBreaker(x);
        check.due("OPEN", x.isAvailable(0), false);
        x.tick(5);
        check.due("HALF_OPEN, with a connection from before", x.isAvailable(0), true);
        int trial = x.open(0);
        check.due("HALF_OPEN, one accepted", x.isAvailable(0), false);
        x.close(0, true);
        check.due("HALF_OPEN, the one from before ended", x.isAvailable(0), false);
        x.close(trial, false);
        check.due("OPEN anew", x.isAvailable(0), false);
        x.tick(5);
        check.due("HALF_OPEN anew", x.isAvailable(0), true);
        Scenes.useOnce(x, true);
        check.due("CLOSED", x.isAvailable(0), true);
    }
}
