import java.util.Map;

/** Promise 2: start succeeds once, with any key, and touches only the keys and the header. */
public final class Promise02StartTest {
    public static void main(String[] args) {
        Checks checks = new Checks();
        for (int key : new int[] {0, 1, -1, 12345, Integer.MIN_VALUE, Integer.MAX_VALUE}) {
            startsOnce(checks, key);
        }
        keepsTheBudget(checks);
        refusedAfterCrashes(checks);
        checks.end();
    }

    private static void startsOnce(Checks checks, int key) {
        SealedAuditLog log = new SealedAuditLog(8, 2);
        Map<String, Integer> before = State.of(log);
        checks.due("start(" + key + ")", log.start(key), true);
        checks.onlyChanged("start(" + key + ")", before, log, "started", "hKey");
        checks.due("started", log.writer(SealedAuditLog.W_STARTED), 1);
        checks.header("start(" + key + ")", log, 0, key, 0, 0);
        before = State.of(log);
        checks.due("second start", log.start(key + 1), false);
        checks.unchanged("second start", before, log);
        log.append(1, 1);
        checks.due("second start, later", log.start(key + 1), false);
        checks.due("the verifier has the first key", log.verify(), SealedAuditLog.V_ACCEPT);
    }

    private static void keepsTheBudget(Checks checks) {
        SealedAuditLog log = new SealedAuditLog(8, 2);
        log.armCrash(5);
        checks.due("start", log.start(3), true);
        checks.mode("start while armed", log, 5, false);
    }

    private static void refusedAfterCrashes(Checks checks) {
        SealedAuditLog log = Logs.crashed(8, 2, 3, 3);
        Map<String, Integer> before = State.of(log);
        checks.due("start while crashed", log.start(4), false);
        checks.unchanged("start while crashed", before, log);
        log.recover();
        before = State.of(log);
        checks.due("start after recover", log.start(4), false);
        checks.unchanged("start after recover", before, log);
        checks.due("verify", log.verify(), SealedAuditLog.V_ACCEPT);
    }
}
