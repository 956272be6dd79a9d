/** Promise 1: clamped sizes, and everything at its initial value. */
public final class Promise01ConstructionTest {
    private static final int LEAST = Integer.MIN_VALUE;
    private static final int MOST = Integer.MAX_VALUE;

    public static void main(String[] args) {
        Checks checks = new Checks();
        recordsBelow(checks);
        recordsAbove(checks);
        otherRecordsStay(checks);
        epochsBelow(checks);
        epochsAbove(checks);
        otherEpochsStay(checks);
        bothOutside(checks);
        sizesNeverChange(checks);
        initialForEverySize(checks);
        objectsStandApart(checks);
        checks.end();
    }

    private static void sizes(Checks checks, int records, int epochLength, int dueRecords, int dueLength) {
        String call = "new SealedAuditLog(" + records + ", " + epochLength + ")";
        SealedAuditLog log = new SealedAuditLog(records, epochLength);
        checks.due(call + ": C", log.writer(SealedAuditLog.W_CAPACITY), 8 * dueRecords);
        checks.due(call + ": last byte", log.storedByte(8 * dueRecords - 1), 0);
        checks.due(call + ": byte after the last", log.storedByte(8 * dueRecords), -1);
        checks.due(call + ": E", log.writer(SealedAuditLog.W_EPOCH_LENGTH), dueLength);
    }

    /** The records that the log takes, checkpoints with them, until append refuses. */
    private static int taken(int records, int epochLength) {
        SealedAuditLog log = Logs.filled(records, epochLength, 5, 40);
        return log.writer(SealedAuditLog.W_END) / 8;
    }

    private static void recordsBelow(Checks checks) {
        checks.says("R is records clamped to 4..32: any value below 4 becomes 4");
        for (int records : new int[] {3, 2, 1, 0, -1, -4, LEAST, LEAST + 4}) {
            sizes(checks, records, 3, 4, 3);
            checks.due("records taken of " + records, taken(records, 8), 4);
        }
    }

    private static void recordsAbove(Checks checks) {
        checks.says("any value above 32 becomes 32");
        for (int records : new int[] {33, 34, 64, 256, 1 << 29, (1 << 29) + 4, MOST}) {
            sizes(checks, records, 3, 32, 3);
            checks.due("records taken of " + records, taken(records, 8), 32);
        }
    }

    private static void otherRecordsStay(Checks checks) {
        checks.says("others stay. C = 8 * R.");
        for (int records = 4; records <= 32; records++) {
            sizes(checks, records, 3, records, 3);
        }
    }

    /** The number of data records before the first checkpoint. */
    private static int firstEpoch(int epochLength) {
        SealedAuditLog log = Logs.filled(32, epochLength, 5, 12);
        int i = 0;
        while (i < 12 && log.storedByte(8 * i) != SealedAuditLog.KIND_CHECKPOINT) {
            i++;
        }
        return i;
    }

    private static void epochsBelow(Checks checks) {
        checks.says("E is epochLength clamped to 2..8 the same way", "below 2");
        for (int length : new int[] {1, 0, -1, -2, LEAST, LEAST + 2}) {
            sizes(checks, 10, length, 10, 2);
            checks.due("first epoch of " + length, firstEpoch(length), 2);
        }
    }

    private static void epochsAbove(Checks checks) {
        checks.says("E is epochLength clamped to 2..8 the same way", "above 8");
        for (int length : new int[] {9, 10, 16, 255, 256, MOST}) {
            sizes(checks, 10, length, 10, 8);
            checks.due("first epoch of " + length, firstEpoch(length), 8);
        }
    }

    private static void otherEpochsStay(Checks checks) {
        checks.says("E is epochLength clamped to 2..8 the same way", "others stay");
        for (int length = 2; length <= 8; length++) {
            sizes(checks, 10, length, 10, length);
            checks.due("first epoch of " + length, firstEpoch(length), length);
        }
    }

    private static void bothOutside(Checks checks) {
        checks.says("new SealedAuditLog(records, epochLength) never refuses");
        sizes(checks, 0, 0, 4, 2);
        sizes(checks, LEAST, LEAST, 4, 2);
        sizes(checks, LEAST, MOST, 4, 8);
        sizes(checks, MOST, LEAST, 32, 2);
        sizes(checks, MOST, MOST, 32, 8);
    }

    private static void sizesNeverChange(Checks checks) {
        checks.says("R and E never change afterwards");
        SealedAuditLog log = new SealedAuditLog(5, 3);
        Runnable[] calls = {() -> log.start(9), () -> log.append(1, 1), () -> log.append(2, 2), () -> log.append(3, 3),
            () -> log.append(4, 4), () -> log.append(5, 5), () -> log.verify(), () -> log.swapRecords(0, 1),
            () -> log.tamper(7, 7), () -> log.dropRecord(4), () -> log.armCrash(2), () -> log.append(5, 5),
            () -> log.recover(), () -> log.crash(), () -> log.start(8), () -> log.recover()};
        for (int n = 0; n < calls.length; n++) {
            calls[n].run();
            checks.due("C after call " + n, log.writer(SealedAuditLog.W_CAPACITY), 40);
            checks.due("byte 39 after call " + n, log.storedByte(39) >= 0, true);
            checks.due("byte 40 after call " + n, log.storedByte(40), -1);
            checks.due("E after call " + n, log.writer(SealedAuditLog.W_EPOCH_LENGTH), 3);
        }
    }

    private static void initialForEverySize(Checks checks) {
        checks.says("At the start: all C log bytes are 0; hEnd = hKey = hTag = hEpoch = 0; wEnd = wTag = wSlot "
            + "= wEpoch = 0; vKey = 0; reason = R_NONE; budget = -1; started = false; crashed = false.");
        for (int records = 3; records <= 33; records++) {
            for (int length = 1; length <= 9; length++) {
                initial(checks, new SealedAuditLog(records, length), 8 * Math.min(32, Math.max(4, records)));
            }
        }
    }

    private static void initial(Checks checks, SealedAuditLog log, int capacity) {
        checks.zeros("new", log, 0, capacity);
        checks.header("new", log, 0, 0, 0, 0);
        checks.writer("new", log, 0, 0, 0, 0);
        checks.mode("new", log, -1, false);
        checks.due("started", log.writer(SealedAuditLog.W_STARTED), 0);
        checks.due("reason", log.verifyReason(), SealedAuditLog.R_NONE);
    }

    private static void objectsStandApart(Checks checks) {
        checks.says("At the start: all C log bytes are 0", "a second object beside one in use");
        SealedAuditLog other = new SealedAuditLog(6, 2);
        Logs.torn(6, 2, 99, 3, 5);
        initial(checks, other, 48);
        initial(checks, new SealedAuditLog(6, 2), 48);
    }
}
