import java.util.Map;

/** Promise 5: crash loses the writer's state and the budget, and nothing durable. */
public final class Promise05CrashTest {
    public static void main(String[] args) {
        Checks checks = new Checks();
        SealedAuditLog unstarted = new SealedAuditLog(8, 2);
        unstarted.armCrash(3);
        refused(checks, unstarted);
        for (int count = 0; count <= 4; count++) {
            crashes(checks, Logs.filled(8, 2, 55, count));
        }
        SealedAuditLog bad = Logs.filled(8, 2, 55, 3);
        bad.tamper(9, 200);
        checks.due("verify", bad.verify(), 1);
        crashes(checks, bad);
        checks.due("reason", bad.verifyReason(), SealedAuditLog.R_SEQ);
        checks.end();
    }

    private static void refused(Checks checks, SealedAuditLog log) {
        Map<String, Integer> before = State.of(log);
        checks.due("crash()", log.crash(), false);
        checks.unchanged("refused crash()", before, log);
    }

    private static void crashes(Checks checks, SealedAuditLog log) {
        log.armCrash(9);
        Map<String, Integer> before = State.of(log);
        checks.due("crash()", log.crash(), true);
        checks.onlyChanged("crash()", before, log, "wEnd", "wTag", "wSlot", "wEpoch", "budget", "crashed");
        checks.writer("crash()", log, 0, 0, 0, 0);
        checks.mode("crash()", log, -1, true);
        log.armCrash(2);
        refused(checks, log);
    }
}
