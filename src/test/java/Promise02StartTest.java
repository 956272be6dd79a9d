import java.util.Map;

/** Promise 2: start succeeds once, with any key, and touches only the keys and the header. */
public final class Promise02StartTest {
    private static final int[] KEYS = {0, 1, -1, 12345, 0x6A09E667, Integer.MIN_VALUE, Integer.MAX_VALUE};

    public static void main(String[] args) {
        Checks checks = new Checks();
        anyKey(checks);
        refusedWhenStarted(checks);
        keyZeroStartsToo(checks);
        keepsTheBudget(checks);
        keepsTheRest(checks);
        onceAlsoAfterCrashes(checks);
        checks.end();
    }

    private static void anyKey(Checks checks) {
        checks.says("started = true, vKey = key, hKey = key, hEnd = hTag = hEpoch = 0, and it answers true. Any "
            + "int key is allowed.");
        for (int key : KEYS) {
            SealedAuditLog log = new SealedAuditLog(8, 2);
            checks.due("start(" + key + ")", log.start(key), true);
            checks.due("started", log.writer(SealedAuditLog.W_STARTED), 1);
            checks.header("start(" + key + ")", log, 0, key, 0, 0);
            log.append(1, 1);
            log.append(2, 2);
            log.append(3, 3);
            checks.due("vKey is the key too: verify()", log.verify(), SealedAuditLog.V_ACCEPT);
        }
    }

    private static void refusedWhenStarted(Checks checks) {
        checks.says("if started is true, it answers false and nothing changes");
        Map<String, SealedAuditLog> logs = Logs.inEveryState(8, 2, 77);
        logs.remove("new");
        logs.forEach((state, log) -> {
            checks.refused("start(77), " + state, log, () -> log.start(77));
            for (int key : KEYS) {
                checks.refused("start(" + key + "), " + state, log, () -> log.start(key));
            }
        });
    }

    private static void keyZeroStartsToo(Checks checks) {
        checks.says("if started is true, it answers false and nothing changes", "started with the key 0");
        SealedAuditLog log = Logs.started(8, 2, 0);
        checks.refused("start(5) after start(0)", log, () -> log.start(5));
        checks.refused("start(0) after start(0)", log, () -> log.start(0));
        log.append(1, 1);
        checks.due("vKey stays 0: verify()", log.verify(), SealedAuditLog.V_ACCEPT);
    }

    private static void keepsTheBudget(Checks checks) {
        checks.says("budget is not changed");
        for (int budget : new int[] {-1, 0, 1, 5, Integer.MAX_VALUE}) {
            SealedAuditLog log = new SealedAuditLog(8, 2);
            log.armCrash(budget);
            checks.due("start", log.start(3), true);
            checks.mode("start with budget " + budget, log, budget, false);
        }
    }

    private static void keepsTheRest(Checks checks) {
        checks.says("the log bytes, the writer state, crashed and reason are not changed");
        for (int key : KEYS) {
            SealedAuditLog log = new SealedAuditLog(8, 2);
            Map<String, Integer> before = State.of(log);
            log.start(key);
            checks.onlyChanged("start(" + key + ")", before, log, "started", "hKey");
        }
    }

    private static void onceAlsoAfterCrashes(Checks checks) {
        checks.says("start succeeds at most once per object, also after crashes");
        SealedAuditLog log = Logs.crashed(8, 2, 3, 3);
        checks.refused("start while crashed", log, () -> log.start(4));
        log.recover();
        checks.refused("start after recover", log, () -> log.start(4));
        log.armCrash(0);
        log.append(1, 1);
        checks.refused("start after a crash of append", log, () -> log.start(4));
        log.recover();
        checks.refused("start after the second recover", log, () -> log.start(4));
        checks.due("vKey is the first key: verify()", log.verify(), SealedAuditLog.V_ACCEPT);
        SealedAuditLog empty = Logs.crashed(8, 2, 3, 0);
        checks.refused("start of an empty crashed log", empty, () -> empty.start(4));
    }
}
