/** Promises 7 to 12: setThresholds, setSlowStart, setCool, setSticky, setPolicy, setSeed. */
public final class SettingsTest {
    private static final Check check = new Check("SettingsTest");

    public static void main(String[] args) {
        setThresholds();
        thresholdsBelowACount();
        setThresholdsWrong();
        setSlowStart();
        setCool();
        setCoolWhileOpen();
        setSticky();
        setPolicy();
        setPolicyForgets();
        setSeed();
        check.end();
    }

    private static void setThresholds() {
        LoadBalancer x = Scenes.withServers(1);
        x.setThresholds(9, 1);
        check.due("7: FALL 1", x.report(0, false), false);
        for (int i = 1; i <= 8; i++) {
            check.due("7: RISE 9, check " + i, x.report(0, true), false);
        }
        check.due("7: RISE 9, check 9", x.report(0, true), true);
        x.setThresholds(1, 9);
        for (int i = 1; i <= 8; i++) {
            check.due("7: FALL 9, check " + i, x.report(0, false), true);
        }
        check.due("7: FALL 9, check 9", x.report(0, false), false);
        check.due("7: RISE 1", x.report(0, true), true);
    }

    private static void thresholdsBelowACount() {
        LoadBalancer x = Scenes.withServers(2);
        x.setThresholds(4, 4);
        x.report(0, false);
        x.report(0, false);
        x.report(1, false);
        x.report(1, false);
        x.setThresholds(4, 1);
        check.due("7: nothing happens at once", x.isAvailable(0), true);
        check.due("7: the next failed check takes effect", x.report(0, false), false);
        check.due("7: a successful one ends the count", x.report(1, true), true);
        x.report(0, true);
        x.report(0, true);
        x.setThresholds(2, 4);
        check.due("7: unhealthy still", x.isAvailable(0), false);
        check.due("7: a count equal to its limit waits for a check", x.report(0, true), true);
        x.setThresholds(1, 5);
        for (int i = 0; i < 4; i++) {
            x.report(1, false);
        }
        x.setThresholds(1, 6);
        check.due("7: the count stays, 5 of 6", x.report(1, false), true);
        check.due("7: the count stays, 6 of 6", x.report(1, false), false);
    }

    private static void setThresholdsWrong() {
        LoadBalancer x = Scenes.withServers(1);
        for (int value : new int[] {0, 10, -1, Integer.MIN_VALUE, Integer.MAX_VALUE}) {
            check.dueArgument("7: setThresholds(" + value + ", 1)", () -> x.setThresholds(value, 1));
            check.dueArgument("7: setThresholds(1, " + value + ")", () -> x.setThresholds(1, value));
        }
        check.due("7: FALL is 3 still", x.report(0, false) && x.report(0, false) && !x.report(0, false), true);
        check.due("7: RISE is 2 still", !x.report(0, true) && x.report(0, true), true);
    }

    private static void setSlowStart() {
        LoadBalancer x = Scenes.withServers(1);
        check.due("8: setSlowStart(50)", x.setSlowStart(50), 0);
        check.due("8: setSlowStart(0)", x.setSlowStart(0), 50);
        x.setWeight(0, 10);
        Scenes.recover(x, 0);
        x.tick(1);
        check.due("8: no window", x.effectiveWeight(0), 10);
        x.setSlowStart(4);
        check.due("8: it applies at once, 10 * 2 / 4", x.effectiveWeight(0), 5);
        x.setSlowStart(1);
        check.due("8: out of the window", x.effectiveWeight(0), 10);
        for (int window : new int[] {-1, 51, Integer.MIN_VALUE, Integer.MAX_VALUE}) {
            check.dueArgument("8: setSlowStart(" + window + ")", () -> x.setSlowStart(window));
        }
        check.due("8: the window after wrong calls", x.setSlowStart(3), 1);
    }

    private static void setCool() {
        LoadBalancer x = Scenes.withServers(1);
        check.due("9: setCool(50)", x.setCool(50), 5);
        check.due("9: setCool(1)", x.setCool(1), 50);
        for (int cool : new int[] {0, 51, -1, Integer.MIN_VALUE, Integer.MAX_VALUE}) {
            check.dueArgument("9: setCool(" + cool + ")", () -> x.setCool(cool));
        }
        Scenes.tripBreaker(x);
        check.due("9: OPEN", x.breaker(0), LoadBalancer.OPEN);
        x.tick(1);
        check.due("9: COOL 1", x.breaker(0), LoadBalancer.HALF_OPEN);
    }

    private static void setCoolWhileOpen() {
        LoadBalancer x = Scenes.withServers(1);
        Scenes.tripBreaker(x);
        x.tick(4);
        x.setCool(2);
        check.due("9: not before the next tick", x.breaker(0), LoadBalancer.OPEN);
        x.tick(1);
        check.due("9: in the next tick", x.breaker(0), LoadBalancer.HALF_OPEN);
        x.setCool(50);
        check.due("9: HALF_OPEN stays", x.breaker(0), LoadBalancer.HALF_OPEN);
        Scenes.useOnce(x, false);
        x.tick(49);
        check.due("9: a longer COOL, one tick early", x.breaker(0), LoadBalancer.OPEN);
        x.tick(1);
        check.due("9: a longer COOL", x.breaker(0), LoadBalancer.HALF_OPEN);
    }

    private static void setSticky() {
        LoadBalancer x = Scenes.withServers(2);
        check.due("10: setSticky(100)", x.setSticky(100), 0);
        x.open(7);
        x.open(8);
        check.due("10: two remembered", x.count(4), 2);
        check.due("10: setSticky(1)", x.setSticky(1), 100);
        check.due("10: still remembered", x.count(4), 2);
        check.due("10: still sticky", x.preview(7), 0);
        x.tick(1);
        check.due("10: no longer sticky", x.preview(8), 0);
        check.due("10: remembered when S ticks have passed", x.count(4), 2);
        x.setSticky(2);
        check.due("10: sticky again with a longer S", x.preview(8), 1);
        check.due("10: setSticky(0)", x.setSticky(0), 2);
        check.due("10: all forgotten", x.count(4), 0);
        x.open(9);
        check.due("10: nothing remembered with S 0", x.count(4), 0);
        x.setSticky(100);
        check.due("10: they stay forgotten", x.count(4), 0);
        for (int duration : new int[] {-1, 101, Integer.MIN_VALUE, Integer.MAX_VALUE}) {
            check.dueArgument("10: setSticky(" + duration + ")", () -> x.setSticky(duration));
        }
        check.due("10: the duration after wrong calls", x.setSticky(5), 100);
    }

    private static void setPolicy() {
        LoadBalancer x = Scenes.withServers(1);
        int previous = LoadBalancer.ROUND_ROBIN;
        for (int policy : new int[] {4, 3, 2, 1, 0, 0}) {
            check.due("11: setPolicy(" + policy + ")", x.setPolicy(policy), previous);
            previous = policy;
        }
        x.setPolicy(LoadBalancer.HASH);
        for (int policy : new int[] {-1, 5, Integer.MIN_VALUE, Integer.MAX_VALUE}) {
            check.dueArgument("11: setPolicy(" + policy + ")", () -> x.setPolicy(policy));
        }
        check.due("11: the policy after wrong calls", x.setPolicy(0), LoadBalancer.HASH);
    }

    private static void setPolicyForgets() {
        LoadBalancer x = Scenes.withServers(3);
        check.due("11: round robin", Scenes.placeMany(x, 2), "01");
        x.setPolicy(LoadBalancer.ROUND_ROBIN);
        check.due("11: no server was selected last", Scenes.placeMany(x, 2), "01");
        x.setPolicy(LoadBalancer.LEAST_CONNECTIONS);
        x.setPolicy(LoadBalancer.ROUND_ROBIN);
        check.due("11: nor after another policy", Scenes.placeMany(x, 2), "01");
        x.setPolicy(LoadBalancer.WEIGHTED);
        check.due("11: weighted", Scenes.placeMany(x, 2), "01");
        x.setPolicy(LoadBalancer.WEIGHTED);
        check.due("11: all credits are 0", Scenes.placeMany(x, 3), "012");
        x.setSeed(99);
        x.setPolicy(LoadBalancer.TWO_CHOICES);
        check.due("11: the seed stays", x.setSeed(1), 99);
    }

    private static void setSeed() {
        LoadBalancer x = Scenes.withServers(1);
        check.due("12: setSeed(MIN)", x.setSeed(Integer.MIN_VALUE), 1);
        check.due("12: setSeed(MAX)", x.setSeed(Integer.MAX_VALUE), Integer.MIN_VALUE);
        check.due("12: setSeed(0)", x.setSeed(0), Integer.MAX_VALUE);
        x.setPolicy(LoadBalancer.TWO_CHOICES);
        x.open(5);
        // Two draws from 0: 12345, then 12345 * 1103515245 + 12345 as an int, also with one available server.
        check.due("12: the seed after two draws", x.setSeed(3), 12345 * 1103515245 + 12345);
    }
}
