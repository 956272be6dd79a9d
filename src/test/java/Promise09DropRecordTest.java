import java.util.Map;

/** Promise 9: dropRecord moves the later records down and shortens the log by one. */
public final class Promise09DropRecordTest {
    public static void main(String[] args) {
        Checks checks = new Checks();
        notStarted(checks);
        crashed(checks);
        emptyLog(checks);
        indexBelow(checks);
        indexAbove(checks);
        firstRecord(checks);
        lastRecord(checks);
        everyRecord(checks);
        onlyRecord(checks);
        fullLog(checks);
        dropsAll(checks);
        bytesFromTheEndOn(checks);
        keepsTheWriter(checks);
        takesNoStep(checks);
        checks.end();
    }

    private static void refused(Checks checks, SealedAuditLog log, int index) {
        checks.refused("dropRecord(" + index + ")", log, () -> log.dropRecord(index));
    }

    private static void dropped(Checks checks, SealedAuditLog log, int index) {
        String call = "dropRecord(" + index + ")";
        Map<String, Integer> before = State.of(log);
        int end = before.get("wEnd");
        checks.due(call, log.dropRecord(index), true);
        checks.onlyChanged(call, before, log, Logs.bytesAnd(8 * index, end, "wEnd"));
        checks.due(call + ": wEnd", log.writer(SealedAuditLog.W_END), end - 8);
        for (int q = 8 * index; q < end - 8; q++) {
            checks.due(call + ": byte " + q, log.storedByte(q), before.get("byte " + (q + 8)));
        }
        checks.zeros(call, log, end - 8, end);
    }

    private static void notStarted(Checks checks) {
        checks.says("Refused (answer false, nothing changes) if not started");
        refused(checks, new SealedAuditLog(8, 2), 0);
    }

    private static void crashed(Checks checks) {
        checks.says("Refused (answer false, nothing changes) .. if crashed");
        refused(checks, Logs.crashed(8, 2, 3, 3), 0);
        refused(checks, Logs.crashed(8, 2, 3, 3), 3);
        refused(checks, Logs.torn(8, 2, 3, 1, 12), 0);
        SealedAuditLog log = Logs.crashed(8, 2, 3, 3);
        log.recover();
        dropped(checks, log, 0);
    }

    private static void emptyLog(Checks checks) {
        checks.says("Refused (answer false, nothing changes) .. if index is not in 0..wEnd/8-1", "an empty log");
        for (int index : new int[] {-1, 0, 1}) {
            refused(checks, Logs.started(8, 2, 3), index);
        }
    }

    private static void indexBelow(Checks checks) {
        checks.says("Refused (answer false, nothing changes) .. if index is not in 0..wEnd/8-1", "index below 0");
        for (int index : new int[] {-1, -2, -8, -(1 << 29), Integer.MIN_VALUE}) {
            refused(checks, Logs.filled(8, 2, 3, 3), index);
        }
    }

    private static void indexAbove(Checks checks) {
        checks.says("Refused (answer false, nothing changes) .. if index is not in 0..wEnd/8-1",
            "index from wEnd/8 on");
        // 8 * (1 << 29) wraps to 0.
        for (int index : new int[] {4, 5, 7, 8, 31, 32, 1 << 29, (1 << 29) + 1, Integer.MAX_VALUE}) {
            refused(checks, Logs.filled(8, 2, 3, 3), index);
        }
    }

    private static void firstRecord(Checks checks) {
        checks.says("for q = 8*index .. wEnd-9 in increasing order, the byte at q becomes the byte at q + 8",
            "index 0: every record moves");
        dropped(checks, Logs.filled(8, 2, 3, 3), 0);
    }

    private static void lastRecord(Checks checks) {
        checks.says("the bytes at wEnd-8..wEnd-1 become 0; wEnd = wEnd - 8", "the last record: none moves");
        SealedAuditLog log = Logs.filled(8, 2, 3, 3);
        dropped(checks, log, 3);
        checks.due("verify()", log.verify(), SealedAuditLog.V_ACCEPT);
    }

    private static void everyRecord(Checks checks) {
        checks.says("Otherwise, for q = 8*index .. wEnd-9 in increasing order, the byte at q becomes the byte "
            + "at q + 8",
            "every index");
        for (int index = 0; index < 8; index++) {
            dropped(checks, Logs.filled(12, 2, 3, 6), index);
        }
    }

    private static void onlyRecord(Checks checks) {
        checks.says("the bytes at wEnd-8..wEnd-1 become 0; wEnd = wEnd - 8", "the only record");
        SealedAuditLog log = Logs.filled(8, 2, 3, 1);
        dropped(checks, log, 0);
        checks.zeros("dropped", log, 0, 64);
        refused(checks, log, 0);
    }

    private static void fullLog(Checks checks) {
        checks.says("if index is not in 0..wEnd/8-1", "wEnd = C");
        for (int index : new int[] {0, 15, 30, 31}) {
            dropped(checks, Logs.filled(32, 8, 3, 29), index);
        }
        refused(checks, Logs.filled(32, 8, 3, 29), 32);
        dropped(checks, Logs.filled(4, 8, 3, 4), 3);
        refused(checks, Logs.filled(4, 8, 3, 4), 4);
    }

    private static void dropsAll(Checks checks) {
        checks.says("wEnd = wEnd - 8", "until the log is empty");
        SealedAuditLog log = Logs.filled(8, 2, 3, 3);
        for (int left = 3; left >= 0; left--) {
            dropped(checks, log, 0);
            refused(checks, log, left);
        }
        checks.due("verify()", log.verify(), SealedAuditLog.V_ACCEPT);
    }

    private static void bytesFromTheEndOn(Checks checks) {
        checks.says("are unchanged, as are bytes at wEnd and beyond (the old wEnd) and before 8*index");
        for (int index = 0; index < 4; index++) {
            SealedAuditLog log = Logs.filled(8, 2, 3, 3);
            for (int pos = 32; pos < 64; pos++) {
                Logs.plant(log, pos, 0xEE);
            }
            dropped(checks, log, index);
        }
    }

    private static void keepsTheWriter(Checks checks) {
        checks.says("wTag, wSlot, wEpoch, the header, budget and reason are unchanged");
        SealedAuditLog log = Logs.filled(8, 2, 3, 3);
        log.tamper(0, 0);
        log.verify();
        int tag = log.writer(SealedAuditLog.W_TAG);
        int key = log.header(SealedAuditLog.H_KEY);
        dropped(checks, log, 3);
        checks.writer("dropped", log, 24, tag, 1, 1);
        checks.due("reason", log.verifyReason(), SealedAuditLog.R_KIND);
        checks.due("append goes on from the writer's tag and slot", log.append(50, 60), 3);
        int[] record = Logs.record(key, tag, 50, 3, 60);
        checks.bytes("append", log, 24, record);
        checks.bytes("checkpoint", log, 32, Logs.record(key, Logs.tagOf(record), 255, 4, 1));
    }

    private static void takesNoStep(Checks checks) {
        checks.says("the header, budget and reason are unchanged", "a budget of each kind");
        for (int budget : new int[] {-1, 0, 1, 5}) {
            SealedAuditLog log = Logs.filled(8, 2, 3, 3);
            log.armCrash(budget);
            dropped(checks, log, 1);
            checks.mode("dropRecord with budget " + budget, log, budget, false);
        }
    }
}
