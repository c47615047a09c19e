/** The four examples of the document's description, call by call. */
public final class ExamplesTest {
    private static final Check check = new Check("ExamplesTest");

    public static void main(String[] args) {
        weightedSelection();
        hashingWithDraining();
        healthAndSlowStart();
        circuitBreaker();
        check.end();
    }

    private static void weightedSelection() {
        LoadBalancer x = new LoadBalancer();
        check.due("1: addServer(5, 4)", x.addServer(5, 4), 0);
        check.due("1: addServer(1, 4)", x.addServer(1, 4), 1);
        check.due("1: setPolicy(1)", x.setPolicy(1), 0);
        check.due("1: open(1)", x.open(1), 0);
        check.due("1: open(2)", x.open(2), 1);
        check.due("1: open(3)", x.open(3), 2);
        check.due("1: serverOf(0)", x.serverOf(0), 0);
        check.due("1: serverOf(1)", x.serverOf(1), 0);
        check.due("1: serverOf(2)", x.serverOf(2), 0);
        check.due("1: close(1, true)", x.close(1, true), 0);
        check.due("1: active(0)", x.active(0), 2);
        check.due("1: utilization(0)", x.utilization(0), 0.5);
    }

    private static void hashingWithDraining() {
        LoadBalancer x = new LoadBalancer();
        check.due("2: addServer(2, 4)", x.addServer(2, 4), 0);
        check.due("2: addServer(2, 4)", x.addServer(2, 4), 1);
        check.due("2: setPolicy(3)", x.setPolicy(3), 0);
        check.due("2: owner(1)", x.owner(1), 0);
        check.due("2: preview(1)", x.preview(1), 0);
        check.due("2: setDraining(0, true)", x.setDraining(0, true), false);
        check.due("2: preview(1)", x.preview(1), 1);
        check.due("2: preview(2)", x.preview(2), 1);
        check.due("2: setDraining(1, true)", x.setDraining(1, true), false);
        check.due("2: preview(1)", x.preview(1), -1);
        check.dueState("2: open(1)", () -> x.open(1));
        check.due("2: count(3)", x.count(3), 1);
    }

    private static void healthAndSlowStart() {
        LoadBalancer x = new LoadBalancer();
        check.due("3: addServer(10, 4)", x.addServer(10, 4), 0);
        check.due("3: setSlowStart(10)", x.setSlowStart(10), 0);
        check.due("3: report(0, false)", x.report(0, false), true);
        check.due("3: report(0, false)", x.report(0, false), true);
        check.due("3: report(0, false)", x.report(0, false), false);
        check.due("3: isAvailable(0)", x.isAvailable(0), false);
        check.due("3: report(0, true)", x.report(0, true), false);
        check.due("3: report(0, true)", x.report(0, true), true);
        check.due("3: effectiveWeight(0)", x.effectiveWeight(0), 1);
        check.due("3: tick(4)", x.tick(4), 4);
        check.due("3: effectiveWeight(0)", x.effectiveWeight(0), 5);
    }

    private static void circuitBreaker() {
        LoadBalancer x = new LoadBalancer();
        check.due("4: addServer(1, 4)", x.addServer(1, 4), 0);
        for (int i = 0; i < 4; i++) {
            check.due("4: open(1)", x.open(1), i);
        }
        check.due("4: close(0, false)", x.close(0, false), 0);
        check.due("4: close(1, false)", x.close(1, false), 0);
        check.due("4: close(2, true)", x.close(2, true), 0);
        check.due("4: close(3, true)", x.close(3, true), 0);
        check.due("4: breaker(0)", x.breaker(0), 1);
        check.due("4: tick(5)", x.tick(5), 5);
        check.due("4: breaker(0)", x.breaker(0), 2);
        check.due("4: open(2)", x.open(2), 4);
        check.due("4: close(4, true)", x.close(4, true), 0);
        check.due("4: breaker(0)", x.breaker(0), 0);
    }
}
