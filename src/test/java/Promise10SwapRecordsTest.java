import java.util.Map;

/** Promise 10: swapRecords exchanges two written records, and refuses all else. */
public final class Promise10SwapRecordsTest {
    private static final int[] OUTSIDE = {-1, -4, 4, 5, 7, 8, 31, 32, 1 << 29, (1 << 29) + 1, Integer.MIN_VALUE,
        Integer.MAX_VALUE};

    public static void main(String[] args) {
        Checks checks = new Checks();
        notStarted(checks);
        crashed(checks);
        emptyLog(checks);
        oneRecord(checks);
        firstOutside(checks);
        secondOutside(checks);
        bothOutside(checks);
        equalIndexes(checks);
        everyPair(checks);
        fullLog(checks);
        afterADrop(checks);
        swapsBack(checks);
        leavesTheRest(checks);
        checks.end();
    }

    private static void refused(Checks checks, SealedAuditLog log, int i, int j) {
        checks.refused("swapRecords(" + i + ", " + j + ")", log, () -> log.swapRecords(i, j));
    }

    private static void swapped(Checks checks, SealedAuditLog log, int i, int j) {
        String call = "swapRecords(" + i + ", " + j + ")";
        Map<String, Integer> before = State.of(log);
        int[] recordI = Logs.stored(log, i);
        int[] recordJ = Logs.stored(log, j);
        checks.due(call, log.swapRecords(i, j), true);
        checks.bytes(call, log, 8 * i, recordJ);
        checks.bytes(call, log, 8 * j, recordI);
        String[] bytesOfJ = Logs.bytesAnd(8 * j, 8 * j + 8);
        checks.onlyChanged(call, before, log, Logs.bytesAnd(8 * i, 8 * i + 8, bytesOfJ));
    }

    private static void notStarted(Checks checks) {
        checks.says("Refused (answer false, nothing changes) if not started");
        refused(checks, new SealedAuditLog(8, 2), 0, 1);
    }

    private static void crashed(Checks checks) {
        checks.says("Refused (answer false, nothing changes) .. if crashed");
        refused(checks, Logs.crashed(8, 2, 3, 3), 0, 1);
        refused(checks, Logs.torn(8, 2, 3, 1, 12), 0, 1);
        SealedAuditLog log = Logs.crashed(8, 2, 3, 3);
        log.recover();
        swapped(checks, log, 0, 1);
    }

    private static void emptyLog(Checks checks) {
        checks.says("Refused (answer false, nothing changes) .. if i or j is not in 0..wEnd/8-1", "an empty log");
        refused(checks, Logs.started(8, 2, 3), 0, 1);
        refused(checks, Logs.started(8, 2, 3), 0, 0);
    }

    private static void oneRecord(Checks checks) {
        checks.says("Refused (answer false, nothing changes) .. if i or j is not in 0..wEnd/8-1",
            "a log of one record");
        SealedAuditLog log = Logs.filled(8, 2, 3, 1);
        refused(checks, log, 0, 1);
        refused(checks, log, 1, 0);
        refused(checks, log, 0, 0);
    }

    private static void firstOutside(Checks checks) {
        checks.says("if i or j is not in 0..wEnd/8-1", "i alone");
        for (int outside : OUTSIDE) {
            refused(checks, Logs.filled(8, 2, 3, 3), outside, 0);
            refused(checks, Logs.filled(8, 2, 3, 3), outside, 3);
        }
    }

    private static void secondOutside(Checks checks) {
        checks.says("if i or j is not in 0..wEnd/8-1", "j alone");
        for (int outside : OUTSIDE) {
            refused(checks, Logs.filled(8, 2, 3, 3), 0, outside);
            refused(checks, Logs.filled(8, 2, 3, 3), 3, outside);
        }
    }

    private static void bothOutside(Checks checks) {
        checks.says("Refused (answer false, nothing changes) .. if i or j is not in 0..wEnd/8-1", "neither");
        for (int i : OUTSIDE) {
            for (int j : OUTSIDE) {
                refused(checks, Logs.filled(8, 2, 3, 3), i, j);
            }
        }
    }

    private static void equalIndexes(Checks checks) {
        checks.says("or if i == j");
        for (int i = 0; i < 4; i++) {
            refused(checks, Logs.filled(8, 2, 3, 3), i, i);
        }
    }

    private static void everyPair(Checks checks) {
        checks.says("the 8 bytes at 8*i..8*i+7 and the 8 bytes at 8*j..8*j+7 trade places and the answer is true",
            "the first and the last record, neighbours, a checkpoint; either way round");
        for (int i = 0; i < 4; i++) {
            for (int j = 0; j < 4; j++) {
                if (i != j) {
                    swapped(checks, Logs.filled(8, 2, 3, 3), i, j);
                }
            }
        }
    }

    private static void fullLog(Checks checks) {
        checks.says("i or j is not in 0..wEnd/8-1", "wEnd = C");
        swapped(checks, Logs.filled(32, 8, 3, 29), 0, 31);
        swapped(checks, Logs.filled(32, 8, 3, 29), 31, 30);
        refused(checks, Logs.filled(32, 8, 3, 29), 31, 32);
        swapped(checks, Logs.filled(4, 8, 3, 4), 3, 0);
        refused(checks, Logs.filled(4, 8, 3, 4), 4, 0);
    }

    private static void afterADrop(Checks checks) {
        checks.says("i or j is not in 0..wEnd/8-1", "wEnd as a drop has left it");
        SealedAuditLog log = Logs.filled(8, 2, 3, 3);
        log.dropRecord(0);
        refused(checks, log, 0, 3);
        swapped(checks, log, 0, 2);
    }

    private static void swapsBack(Checks checks) {
        checks.says("exchanges the 8 bytes of records i and j", "twice: all is as before");
        SealedAuditLog log = Logs.filled(8, 2, 3, 3);
        Map<String, Integer> before = State.of(log);
        log.swapRecords(1, 2);
        checks.due("verify()", log.verify(), 1);
        checks.due("verifyReason()", log.verifyReason(), SealedAuditLog.R_ORDER);
        log.swapRecords(2, 1);
        checks.due("verify()", log.verify(), SealedAuditLog.V_ACCEPT);
        checks.unchanged("swapped back", before, log);
    }

    private static void leavesTheRest(Checks checks) {
        checks.says("Nothing else changes");
        for (int budget : new int[] {-1, 0, 1, 5}) {
            SealedAuditLog log = Logs.filled(8, 2, 3, 3);
            log.tamper(0, 0);
            log.verify();
            log.armCrash(budget);
            swapped(checks, log, 1, 3);
            checks.mode("swapRecords with budget " + budget, log, budget, false);
            checks.due("reason", log.verifyReason(), SealedAuditLog.R_KIND);
        }
    }
}
