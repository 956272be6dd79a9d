import java.util.Map;

/** Promise 10: swapRecords exchanges two written records, and refuses all else. */
public final class Promise10SwapRecordsTest {
    public static void main(String[] args) {
        Checks checks = new Checks();
        refused(checks, new SealedAuditLog(8, 2), 0, 1);
        refused(checks, Logs.started(8, 2, 3), 0, 1);
        refused(checks, Logs.filled(8, 2, 3, 1), 0, 1);
        refused(checks, Logs.crashed(8, 2, 3, 3), 0, 1);
        SealedAuditLog log = Logs.filled(8, 2, 3, 3);
        for (int outside : new int[] {-1, 4, 7, 8, 1 << 29, Integer.MIN_VALUE, Integer.MAX_VALUE}) {
            refused(checks, log, outside, 1);
            refused(checks, log, 1, outside);
            refused(checks, log, outside, outside);
        }
        for (int i = 0; i < 4; i++) {
            refused(checks, log, i, i);
            for (int j = 0; j < 4; j++) {
                if (i != j) {
                    swapped(checks, Logs.filled(8, 2, 3, 3), i, j);
                }
            }
        }
        swapped(checks, Logs.filled(32, 8, 3, 29), 0, 31);
        swapsBack(checks);
        checks.end();
    }

    private static void refused(Checks checks, SealedAuditLog log, int i, int j) {
        String call = "swapRecords(" + i + ", " + j + ")";
        Map<String, Integer> before = State.of(log);
        checks.due(call, log.swapRecords(i, j), false);
        checks.unchanged(call, before, log);
    }

    private static void swapped(Checks checks, SealedAuditLog log, int i, int j) {
        String call = "swapRecords(" + i + ", " + j + ")";
        log.tamper(0, 0);
        log.verify();
        log.armCrash(0);
        Map<String, Integer> before = State.of(log);
        String[] allowed = new String[16];
        for (int k = 0; k < 8; k++) {
            allowed[k] = "byte " + (8 * i + k);
            allowed[8 + k] = "byte " + (8 * j + k);
        }
        checks.due(call, log.swapRecords(i, j), true);
        checks.onlyChanged(call, before, log, allowed);
        for (int k = 0; k < 8; k++) {
            checks.due(call + ": byte " + k + " of i", log.storedByte(8 * i + k), before.get(allowed[8 + k]));
            checks.due(call + ": byte " + k + " of j", log.storedByte(8 * j + k), before.get(allowed[k]));
        }
    }

    private static void swapsBack(Checks checks) {
        SealedAuditLog log = Logs.filled(8, 2, 3, 3);
        log.swapRecords(1, 2);
        checks.due("verify", log.verify(), 1);
        checks.due("verifyReason", log.verifyReason(), SealedAuditLog.R_ORDER);
        log.swapRecords(2, 1);
        checks.due("verify", log.verify(), SealedAuditLog.V_ACCEPT);
    }
}
