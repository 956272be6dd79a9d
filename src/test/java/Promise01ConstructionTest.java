/** Promise 1: clamped sizes, and everything at its initial value. */
public final class Promise01ConstructionTest {
    public static void main(String[] args) {
        Checks checks = new Checks();
        int[][] records = {{4, 4}, {5, 5}, {17, 17}, {31, 31}, {32, 32},
            {3, 4}, {0, 4}, {-1, 4}, {Integer.MIN_VALUE, 4}, {33, 32}, {1000, 32}, {Integer.MAX_VALUE, 32}};
        for (int[] pair : records) {
            SealedAuditLog log = new SealedAuditLog(pair[0], 3);
            checks.due("capacity of " + pair[0], log.writer(SealedAuditLog.W_CAPACITY), 8 * pair[1]);
            checks.due("epoch length", log.writer(SealedAuditLog.W_EPOCH_LENGTH), 3);
            initial(checks, log, 8 * pair[1]);
        }
        int[][] epochs = {{2, 2}, {3, 3}, {7, 7}, {8, 8},
            {1, 2}, {0, 2}, {-1, 2}, {Integer.MIN_VALUE, 2}, {9, 8}, {Integer.MAX_VALUE, 8}};
        for (int[] pair : epochs) {
            SealedAuditLog log = new SealedAuditLog(10, pair[0]);
            checks.due("epoch length of " + pair[0], log.writer(SealedAuditLog.W_EPOCH_LENGTH), pair[1]);
            checks.due("capacity", log.writer(SealedAuditLog.W_CAPACITY), 80);
            initial(checks, log, 80);
        }
        objectsStandApart(checks);
        checks.end();
    }

    private static void initial(Checks checks, SealedAuditLog log, int capacity) {
        for (int pos = 0; pos < capacity; pos++) {
            checks.due("byte " + pos, log.storedByte(pos), 0);
        }
        checks.due("byte after the last", log.storedByte(capacity), -1);
        checks.header("new", log, 0, 0, 0, 0);
        checks.writer("new", log, 0, 0, 0, 0);
        checks.mode("new", log, -1, false);
        checks.due("started", log.writer(SealedAuditLog.W_STARTED), 0);
        checks.due("reason", log.verifyReason(), SealedAuditLog.R_NONE);
    }

    private static void objectsStandApart(Checks checks) {
        SealedAuditLog other = new SealedAuditLog(6, 2);
        Logs.filled(6, 2, 99, 3);
        initial(checks, other, 48);
    }
}
