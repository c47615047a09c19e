import java.util.ArrayList;
import java.util.Arrays;
import java.util.List;
import java.util.Random;
import java.util.concurrent.Callable;

/**
 * Random runs of 512 calls, the same in every run of the test, on the class and on the Reference: every answer and
 * every exception, by its very class, must be the same.
 */
public final class ModelTest {
    private static final int RUNS = 3000;
    private static final int CALLS = 512;
    private static final int[] WILD = {Integer.MIN_VALUE, -1001, -2, -1, 0, 1, 2, 10, 11, 20, 21, 50, 51, 100, 101, 200,
        201, 999, 1000, Integer.MAX_VALUE};

    private final Random random;
    private final LoadBalancer x = new LoadBalancer();
    private final Reference due = new Reference();
    private final List<String> told = new ArrayList<>();
    /** How often each kind of call comes in this run; the runs differ in it, so that each rule has its own runs. */
    private final int[] share = new int[25];
    private final int clients;
    private final boolean mostlyGood;
    private final int wildness;
    private int opened = 0;
    private boolean wrong = false;

    private ModelTest(long seed) {
        random = new Random(seed);
        clients = new int[] {2, 8, 45, 60}[random.nextInt(4)];
        mostlyGood = random.nextInt(3) == 0;
        wildness = random.nextInt(4) == 0 ? 10 : 200;
        int[] usual = {3, 2, 3, 6, 1, 1, 1, 1, 1, 1, 1, 8, 12, 30, 25, 2, 4, 3, 3, 2, 3, 2, 4, 1, 1};
        for (int i = 0; i < share.length; i++) {
            share[i] = usual[i] * (1 + random.nextInt(4));
            if (random.nextInt(5) == 0) {
                share[i] = i == 0 || i == 13 ? share[i] : 0;
            }
        }
    }

    public static void main(String[] args) {
        int failed = 0;
        for (int run = 0; run < RUNS && failed < 3; run++) {
            ModelTest test = new ModelTest(run);
            test.run();
            if (test.wrong) {
                failed++;
                System.out.println("ModelTest, run " + run + ":");
                test.told.subList(Math.max(0, test.told.size() - 40), test.told.size()).forEach(System.out::println);
            }
        }
        System.out.println("ModelTest: " + RUNS + " runs of " + CALLS + " calls, " + failed + " of them wrong");
        if (failed != 0) {
            System.exit(1);
        }
    }

    private void run() {
        int first = random.nextInt(11);
        for (int i = 0; i < CALLS && !wrong; i++) {
            call(i < first ? 0 : kind());
        }
    }

    private int kind() {
        int left = random.nextInt(Arrays.stream(share).sum());
        int kind = 0;
        while (left >= share[kind]) {
            left -= share[kind];
            kind++;
        }
        return kind;
    }

    private int number(int least, int greatest) {
        if (random.nextInt(wildness) == 0) {
            return WILD[random.nextInt(WILD.length)];
        }
        return least + random.nextInt(greatest - least + 1);
    }

    private int server() {
        return number(0, Math.max(0, due.servers() - 1));
    }

    private int client() {
        return random.nextInt(40) == 0 ? random.nextInt() : number(-clients / 2, clients / 2);
    }

    private int connection() {
        int newest = Math.max(0, opened - 1);
        return number(random.nextBoolean() ? 0 : Math.max(0, newest - 8), newest);
    }

    private boolean good() {
        return random.nextInt(4) == 0 ? !mostlyGood : mostlyGood;
    }

    private static Object nothing(Runnable code) {
        code.run();
        return "nothing";
    }

    private void call(int kind) {
        if (kind < 11) {
            change(kind);
        } else {
            use(kind);
        }
        opened = due.count(2);
    }

    private void change(int kind) {
        int s = server();
        boolean b = random.nextBoolean();
        int w = number(1, 10);
        int c = random.nextBoolean() ? number(1, 20) : number(1, 3);
        switch (kind) {
            case 0: same("addServer(" + w + ", " + c + ")", () -> x.addServer(w, c), () -> due.addServer(w, c)); break;
            case 1: same("setWeight(" + s + ", " + w + ")", () -> x.setWeight(s, w), () -> due.setWeight(s, w)); break;
            case 2: same("setDraining(" + s + ", " + b + ")", () -> x.setDraining(s, b), () -> due.setDraining(s, b)); break;
            case 3: same("report(" + s + ", " + b + ")", () -> x.report(s, b), () -> due.report(s, b)); break;
            case 4: thresholds(number(1, random.nextBoolean() ? 9 : 2), number(1, random.nextBoolean() ? 9 : 3)); break;
            case 5: setting("setSlowStart", number(0, 50)); break;
            case 6: setting("setCool", random.nextBoolean() ? number(1, 50) : number(1, 6)); break;
            case 7: setting("setSticky", random.nextInt(4) == 0 ? 0 : number(1, 100)); break;
            case 8: setting("setPolicy", number(0, 4)); break;
            case 9: setting("setSeed", random.nextInt()); break;
            default: setting("setSeed", number(-9, 9)); break;
        }
    }

    private void thresholds(int rise, int fall) {
        same("setThresholds(" + rise + ", " + fall + ")", () -> nothing(() -> x.setThresholds(rise, fall)),
            () -> nothing(() -> due.setThresholds(rise, fall)));
    }

    private void setting(String name, int v) {
        String call = name + "(" + v + ")";
        switch (name) {
            case "setSlowStart": same(call, () -> x.setSlowStart(v), () -> due.setSlowStart(v)); break;
            case "setCool": same(call, () -> x.setCool(v), () -> due.setCool(v)); break;
            case "setSticky": same(call, () -> x.setSticky(v), () -> due.setSticky(v)); break;
            case "setPolicy": same(call, () -> x.setPolicy(v), () -> due.setPolicy(v)); break;
            default: same(call, () -> x.setSeed(v), () -> due.setSeed(v)); break;
        }
    }

    private void use(int kind) {
        int s = server();
        int c = client();
        int n = connection();
        int t = random.nextInt(20) == 0 ? number(1, 200) : number(1, 3);
        int slot = number(0, 1);
        int what = number(0, 4);
        boolean g = good();
        switch (kind) {
            case 11: same("tick(" + t + ")", () -> x.tick(t), () -> due.tick(t)); break;
            case 12: same("preview(" + c + ")", () -> x.preview(c), () -> due.preview(c)); break;
            case 13: same("open(" + c + ")", () -> x.open(c), () -> due.open(c)); break;
            case 14: same("close(" + n + ", " + g + ")", () -> x.close(n, g), () -> due.close(n, g)); break;
            case 15: same("serverOf(" + n + ")", () -> x.serverOf(n), () -> due.serverOf(n)); break;
            case 16: same("isAvailable(" + s + ")", () -> x.isAvailable(s), () -> due.isAvailable(s)); break;
            case 17: same("effectiveWeight(" + s + ")", () -> x.effectiveWeight(s), () -> due.effectiveWeight(s)); break;
            case 18: same("active(" + s + ")", () -> x.active(s), () -> due.active(s)); break;
            case 19: same("utilization(" + s + ")", () -> x.utilization(s), () -> due.utilization(s)); break;
            case 20: same("breaker(" + s + ")", () -> x.breaker(s), () -> due.breaker(s)); break;
            case 21: same("owner(" + c + ")", () -> x.owner(c), () -> due.owner(c)); break;
            case 22: same("count(" + what + ")", () -> x.count(what), () -> due.count(what)); break;
            case 23: same("save(" + slot + ")", () -> nothing(() -> x.save(slot)), () -> nothing(() -> due.save(slot))); break;
            default: same("restore(" + slot + ")", () -> nothing(() -> x.restore(slot)), () -> nothing(() -> due.restore(slot))); break;
        }
        if (kind == 13) {
            same("servers()", x::servers, due::servers);
            int newest = due.count(2) - 1;
            same("serverOf(" + newest + ")", () -> x.serverOf(newest), () -> due.serverOf(newest));
        }
    }

    private void same(String call, Callable<Object> got, Callable<Object> want) {
        Object answered = answer(got);
        Object wanted = answer(want);
        told.add("  " + call + " answered " + answered + ", due is " + wanted);
        wrong = wrong || !answered.equals(wanted);
    }

    private static Object answer(Callable<Object> code) {
        try {
            return code.call();
        } catch (Exception e) {
            return "throws." + e.getClass().getName();
        }
    }
}
