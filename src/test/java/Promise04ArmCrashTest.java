import java.util.Map;

/** Promise 4: armCrash sets the budget in any state and nothing else. */
public final class Promise04ArmCrashTest {
    public static void main(String[] args) {
        Checks checks = new Checks();
        SealedAuditLog bad = Logs.filled(8, 2, 5, 3);
        bad.tamper(0, 0);
        bad.verify();
        armed(checks, new SealedAuditLog(8, 2));
        armed(checks, Logs.started(8, 2, 5));
        armed(checks, bad);
        armed(checks, Logs.crashed(8, 2, 5, 3));
        zeroCrashesTheNextStep(checks);
        theLastCallCounts(checks);
        othersEndIt(checks);
        checks.end();
    }

    private static void armed(Checks checks, SealedAuditLog log) {
        int[][] pairs = {{0, 0}, {1, 1}, {17, 17}, {Integer.MAX_VALUE, Integer.MAX_VALUE},
            {-1, -1}, {3, 3}, {-2, -1}, {4, 4}, {Integer.MIN_VALUE, -1}};
        for (int[] pair : pairs) {
            Map<String, Integer> before = State.of(log);
            log.armCrash(pair[0]);
            checks.onlyChanged("armCrash(" + pair[0] + ")", before, log, "budget");
            checks.due("budget after armCrash(" + pair[0] + ")", log.writer(SealedAuditLog.W_BUDGET), pair[1]);
        }
    }

    private static void zeroCrashesTheNextStep(Checks checks) {
        SealedAuditLog log = Logs.started(8, 2, 5);
        log.armCrash(0);
        checks.due("append", log.append(1, 1), SealedAuditLog.ERR_LOST);
        for (int pos = 0; pos < 64; pos++) {
            checks.due("byte " + pos, log.storedByte(pos), 0);
        }
        checks.mode("append", log, -1, true);
    }

    private static void theLastCallCounts(Checks checks) {
        SealedAuditLog log = Logs.started(8, 2, 5);
        log.armCrash(0);
        log.armCrash(-5);
        checks.due("disarmed", log.append(1, 1), 0);
        checks.mode("disarmed", log, -1, false);
        log.armCrash(2);
        log.armCrash(17);
        checks.due("17 steps", log.append(1, 1), 1);
        checks.mode("17 steps", log, 0, false);
        checks.due("no step left", log.append(1, 1), SealedAuditLog.ERR_LOST);
        log.armCrash(6);
        checks.mode("armed while crashed", log, 6, true);
    }

    private static void othersEndIt(Checks checks) {
        SealedAuditLog log = Logs.filled(8, 2, 5, 3);
        log.armCrash(0);
        checks.due("crash", log.crash(), true);
        checks.mode("crash", log, -1, true);
        log.armCrash(0);
        checks.due("refused crash", log.crash(), false);
        checks.mode("refused crash", log, 0, true);
        checks.due("recover", log.recover(), 4);
        checks.mode("recover", log, -1, false);
        log.armCrash(4);
        checks.due("refused recover", log.recover(), SealedAuditLog.ERR_NOT_CRASHED);
        checks.mode("refused recover", log, 4, false);
    }
}
