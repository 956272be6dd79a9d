import java.util.Map;

/** Promise 5: crash loses the writer's state and the budget, and nothing durable. */
public final class Promise05CrashTest {
    public static void main(String[] args) {
        Checks checks = new Checks();
        refusedBeforeStart(checks);
        refusedWhileCrashed(checks);
        crashesFromEveryState(checks);
        keepsTheDurable(checks);
        canCrashAgain(checks);
        checks.end();
    }

    private static void refusedBeforeStart(Checks checks) {
        checks.says("refused (answer false, nothing changes) if not started");
        SealedAuditLog log = new SealedAuditLog(8, 2);
        checks.refused("crash()", log, log::crash);
        checks.due("start() after it", log.start(5), true);
        checks.due("crash() after start()", log.crash(), true);
    }

    private static void refusedWhileCrashed(Checks checks) {
        checks.says("refused (answer false, nothing changes) .. if crashed");
        for (int steps = 0; steps <= 16; steps++) {
            SealedAuditLog log = Logs.torn(8, 2, 55, 1, steps);
            checks.refused("crash() after a crash of append", log, log::crash);
        }
        SealedAuditLog log = Logs.crashed(8, 2, 55, 3);
        checks.refused("second crash()", log, log::crash);
    }

    private static void crashed(Checks checks, SealedAuditLog log, int budget) {
        log.armCrash(budget);
        Map<String, Integer> before = State.of(log);
        checks.due("crash()", log.crash(), true);
        checks.writer("crash()", log, 0, 0, 0, 0);
        checks.mode("crash()", log, -1, true);
        checks.onlyChanged("crash()", before, log, "wEnd", "wTag", "wSlot", "wEpoch", "budget", "crashed");
    }

    private static void crashesFromEveryState(Checks checks) {
        checks.says("Otherwise a CRASH happens exactly as in Write steps: crashed = true, budget = -1, wEnd = "
            + "wTag = wSlot = wEpoch = 0; it answers true",
            "empty, in mid-epoch, after a checkpoint, full; armed or not");
        for (int budget : new int[] {-1, 0, 9, Integer.MAX_VALUE}) {
            for (int count = 0; count <= 6; count++) {
                crashed(checks, Logs.filled(8, 2, 55, count), budget);
            }
        }
    }

    private static void keepsTheDurable(Checks checks) {
        checks.says("The log bytes, the header, vKey, reason and started do not change");
        SealedAuditLog log = Logs.filled(8, 2, 55, 3);
        log.tamper(9, 200);
        checks.due("verify()", log.verify(), 1);
        crashed(checks, log, -1);
        checks.due("reason", log.verifyReason(), SealedAuditLog.R_SEQ);
        log.recover();
        log.tamper(9, 1);
        checks.due("vKey: verify()", log.verify(), SealedAuditLog.V_ACCEPT);
    }

    private static void canCrashAgain(Checks checks) {
        checks.says("if crashed", "no more after recover");
        SealedAuditLog log = Logs.crashed(8, 2, 55, 3);
        log.recover();
        crashed(checks, log, -1);
        log.recover();
        log.append(1, 1);
        crashed(checks, log, 0);
    }
}
