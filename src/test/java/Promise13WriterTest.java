/** Promise 13: writer answers its nine fields, 0 for any other, in any state. */
public final class Promise13WriterTest {
    public static void main(String[] args) {
        Checks checks = new Checks();
        fields(checks);
        budgets(checks);
        capacities(checks);
        otherFields(checks);
        inAnyState(checks);
        checks.end();
    }

    private static void read(Checks checks, String state, SealedAuditLog log, int... due) {
        for (int f = 0; f < 9; f++) {
            int field = f;
            checks.inert("writer(" + f + "), " + state, log, () -> log.writer(field), due[f]);
        }
    }

    private static void fields(Checks checks) {
        checks.says("W_END answers wEnd; W_TAG answers wTag; W_SLOT answers wSlot; W_EPOCH answers wEpoch; "
            + "W_BUDGET answers budget; W_CRASHED answers 1 if crashed else 0; W_STARTED answers 1 if started "
            + "else 0; W_CAPACITY answers C; W_EPOCH_LENGTH answers E");
        SealedAuditLog log = Logs.started(8, 2, 12345);
        log.armCrash(40);
        read(checks, "armed", log, 0, 0, 0, 0, 40, 0, 1, 64, 2);
        log.append(1, 100);
        read(checks, "mid-epoch", log, 8, 48452715, 1, 0, 32, 0, 1, 64, 2);
        log.append(2, 200);
        read(checks, "after a checkpoint", log, 24, -1088005932, 0, 1, 15, 0, 1, 64, 2);
        log.append(3, 300);
        read(checks, "in the next epoch", log, 32, -1177296449, 1, 1, 7, 0, 1, 64, 2);
        log.append(4, 400);
        read(checks, "crashed", log, 0, 0, 0, 0, -1, 1, 1, 64, 2);
        log.recover();
        read(checks, "recovered", log, 32, -1177296449, 1, 1, -1, 0, 1, 64, 2);
    }

    private static void budgets(Checks checks) {
        checks.says("W_BUDGET answers budget", "-1 when disarmed");
        SealedAuditLog log = new SealedAuditLog(8, 2);
        checks.due("new", log.writer(SealedAuditLog.W_BUDGET), -1);
        for (int[] pair : new int[][] {{0, 0}, {Integer.MAX_VALUE, Integer.MAX_VALUE}, {Integer.MIN_VALUE, -1}}) {
            log.armCrash(pair[0]);
            checks.due("armCrash(" + pair[0] + ")", log.writer(SealedAuditLog.W_BUDGET), pair[1]);
        }
    }

    private static void capacities(Checks checks) {
        checks.says("W_CAPACITY answers C; W_EPOCH_LENGTH answers E", "least and greatest");
        read(checks, "least", new SealedAuditLog(4, 2), 0, 0, 0, 0, -1, 0, 0, 32, 2);
        read(checks, "below", new SealedAuditLog(3, 1), 0, 0, 0, 0, -1, 0, 0, 32, 2);
        read(checks, "greatest", new SealedAuditLog(32, 8), 0, 0, 0, 0, -1, 0, 0, 256, 8);
        read(checks, "above", new SealedAuditLog(33, 9), 0, 0, 0, 0, -1, 0, 0, 256, 8);
    }

    private static void otherFields(Checks checks) {
        checks.says("any other f answers 0");
        SealedAuditLog log = Logs.filled(8, 2, 12345, 3);
        log.armCrash(5);
        for (int f : new int[] {-1, -2, 9, 10, 16, 256, 264, 1 << 16, Integer.MIN_VALUE, Integer.MAX_VALUE}) {
            checks.inert("writer(" + f + ")", log, () -> log.writer(f), 0);
        }
    }

    private static void inAnyState(Checks checks) {
        checks.says("writer(f) works in any state and changes nothing");
        read(checks, "new", new SealedAuditLog(9, 3), 0, 0, 0, 0, -1, 0, 0, 72, 3);
        read(checks, "started", Logs.started(9, 3, 1), 0, 0, 0, 0, -1, 0, 1, 72, 3);
        read(checks, "crashed while empty", Logs.crashed(9, 3, 1, 0), 0, 0, 0, 0, -1, 1, 1, 72, 3);
        SealedAuditLog armed = Logs.crashed(9, 3, 1, 4);
        armed.armCrash(6);
        read(checks, "crashed and armed", armed, 0, 0, 0, 0, 6, 1, 1, 72, 3);
        SealedAuditLog dropped = Logs.filled(9, 3, 1, 2);
        int tag = Logs.storedTag(dropped, 1);
        dropped.dropRecord(1);
        read(checks, "after a drop", dropped, 8, tag, 2, 0, -1, 0, 1, 72, 3);
    }
}
