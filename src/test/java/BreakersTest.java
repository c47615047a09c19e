/** The circuit breakers of the description, which promises 9, 13, 16, 18 and 22 use. */
public final class BreakersTest {
    private static final Check check = new Check("BreakersTest");

    public static void main(String[] args) {
        needsFourResults();
        needsHalfBad();
        keepsEightResults();
        openAndHalfOpen();
        endsGood();
        endsBad();
        otherConnections();
        oldConnectionsAfterwards();
        oneServerAlone();
        goodOnesAfterBadOnes();
        check.end();
    }

    private static LoadBalancer afterResults(String results) {
        LoadBalancer x = Scenes.withServers(1);
        for (int i = 0; i < results.length(); i++) {
            Scenes.useOnce(x, results.charAt(i) == '+');
        }
        return x;
    }

    private static void dueAfter(String results, int breaker) {
        check.due("22: breaker(0) after " + results, afterResults(results).breaker(0), breaker);
    }

    private static void needsFourResults() {
        dueAfter("", LoadBalancer.CLOSED);
        dueAfter("-", LoadBalancer.CLOSED);
        dueAfter("---", LoadBalancer.CLOSED);
        dueAfter("----", LoadBalancer.OPEN);
        dueAfter("---+", LoadBalancer.OPEN);
    }

    private static void needsHalfBad() {
        dueAfter("--++", LoadBalancer.OPEN);
        dueAfter("++--", LoadBalancer.OPEN);
        dueAfter("+++-", LoadBalancer.CLOSED);
        dueAfter("+++--", LoadBalancer.CLOSED);
        dueAfter("+++---", LoadBalancer.OPEN);
        dueAfter("++++---", LoadBalancer.CLOSED);
        dueAfter("++++----", LoadBalancer.OPEN);
        dueAfter("++++++++", LoadBalancer.CLOSED);
    }

    private static void keepsEightResults() {
        dueAfter("++++++++---", LoadBalancer.CLOSED);
        dueAfter("++++++++----", LoadBalancer.OPEN);
        dueAfter("-++++++---", LoadBalancer.CLOSED);
        dueAfter("-++++++--+++-+", LoadBalancer.CLOSED);
        dueAfter("+-+++-+++-+++-+++-++", LoadBalancer.CLOSED);
        dueAfter("++-++-++-+-+", LoadBalancer.CLOSED);
        dueAfter("++-++-++-+--", LoadBalancer.OPEN);
    }

    private static void openAndHalfOpen() {
        LoadBalancer x = Scenes.withServers(1);
        x.tick(10);
        Scenes.tripBreaker(x);
        check.due("18: not available while OPEN", x.isAvailable(0), false);
        check.dueState("15: open while OPEN", () -> x.open(1));
        x.tick(4);
        check.due("22: OPEN for COOL ticks", x.breaker(0), LoadBalancer.OPEN);
        x.tick(1);
        check.due("22: HALF_OPEN then", x.breaker(0), LoadBalancer.HALF_OPEN);
        check.due("18: available while HALF_OPEN", x.isAvailable(0), true);
        int trial = x.open(1);
        check.due("18: not available after one connection", x.isAvailable(0), false);
        check.due("14: preview after one connection", x.preview(1), LoadBalancer.NONE);
        x.tick(100);
        check.due("22: HALF_OPEN until it ends", x.breaker(0), LoadBalancer.HALF_OPEN);
        check.due("18: not available until it ends", x.isAvailable(0), false);
        check.due("16: close of it", x.close(trial, true), 100);
        check.due("22: CLOSED after it", x.breaker(0), LoadBalancer.CLOSED);
    }

    private static void endsGood() {
        LoadBalancer x = Scenes.withServers(1);
        Scenes.tripBreaker(x);
        x.tick(5);
        Scenes.useOnce(x, true);
        check.due("22: CLOSED", x.breaker(0), LoadBalancer.CLOSED);
        Scenes.useOnce(x, false);
        Scenes.useOnce(x, false);
        Scenes.useOnce(x, false);
        check.due("22: without results", x.breaker(0), LoadBalancer.CLOSED);
        Scenes.useOnce(x, false);
        check.due("22: OPEN by four new ones", x.breaker(0), LoadBalancer.OPEN);
    }

    private static void endsBad() {
        LoadBalancer x = Scenes.withServers(1);
        Scenes.tripBreaker(x);
        x.tick(7);
        int trial = x.open(1);
        x.tick(2);
        x.close(trial, false);
        check.due("22: OPEN anew", x.breaker(0), LoadBalancer.OPEN);
        x.tick(4);
        check.due("22: for COOL ticks from then", x.breaker(0), LoadBalancer.OPEN);
        x.tick(1);
        check.due("22: HALF_OPEN anew", x.breaker(0), LoadBalancer.HALF_OPEN);
        check.due("18: it accepts one anew", x.isAvailable(0), true);
        Scenes.useOnce(x, true);
        check.due("22: CLOSED", x.breaker(0), LoadBalancer.CLOSED);
    }

    private static void otherConnections() {
        LoadBalancer x = Scenes.withServers(1);
        for (int i = 0; i < 6; i++) {
            x.open(1);
        }
        Scenes.tripBreaker(x);
        x.close(0, true);
        x.close(1, false);
        check.due("22: an end while OPEN has no effect", x.breaker(0), LoadBalancer.OPEN);
        x.tick(4);
        x.close(2, false);
        x.tick(1);
        check.due("22: nor does it begin COOL anew", x.breaker(0), LoadBalancer.HALF_OPEN);
        x.close(3, false);
        check.due("22: another end while HALF_OPEN, bad", x.breaker(0), LoadBalancer.HALF_OPEN);
        int trial = x.open(1);
        x.close(4, true);
        check.due("22: another end while HALF_OPEN, good", x.breaker(0), LoadBalancer.HALF_OPEN);
        check.due("18: it frees no place", x.isAvailable(0), false);
        x.close(trial, true);
        check.due("22: the end that counts", x.breaker(0), LoadBalancer.CLOSED);
    }

    private static void oldConnectionsAfterwards() {
        LoadBalancer x = Scenes.withServers(1);
        for (int i = 0; i < 4; i++) {
            x.open(1);
        }
        Scenes.tripBreaker(x);
        x.tick(5);
        Scenes.useOnce(x, true);
        x.close(0, false);
        x.close(1, false);
        x.close(2, true);
        check.due("22: three results of older connections", x.breaker(0), LoadBalancer.CLOSED);
        x.close(3, true);
        check.due("22: they count when they end while CLOSED", x.breaker(0), LoadBalancer.OPEN);
    }

    /** Bad results of the time before must not count with good ones of the time after. */
    private static void goodOnesAfterBadOnes() {
        LoadBalancer x = Scenes.withServers(1);
        Scenes.tripBreaker(x);
        x.tick(5);
        for (int i = 0; i < 5; i++) {
            Scenes.useOnce(x, true);
            check.due("22: CLOSED with good results alone", x.breaker(0), LoadBalancer.CLOSED);
        }
    }

    private static void oneServerAlone() {
        LoadBalancer x = Scenes.withServers(2);
        for (int i = 0; i < 8; i++) {
            x.open(1);
        }
        for (int i = 0; i < 8; i++) {
            x.close(i, i % 2 == 0);
        }
        check.due("22: the good server", x.breaker(0), LoadBalancer.CLOSED);
        check.due("22: the bad server", x.breaker(1), LoadBalancer.OPEN);
        check.due("15: only the good one is used", Scenes.placeMany(x, 3), "000");
        x.tick(5);
        check.due("15: one connection for HALF_OPEN", Scenes.placeMany(x, 4), "1000");
    }
}
