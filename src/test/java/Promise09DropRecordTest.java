import java.util.Map;

/** Promise 9: dropRecord moves the later records down and shortens the log by one. */
public final class Promise09DropRecordTest {
    public static void main(String[] args) {
        Checks checks = new Checks();
        refused(checks, new SealedAuditLog(8, 2), 0);
        refused(checks, Logs.started(8, 2, 3), 0);
        refused(checks, Logs.crashed(8, 2, 3, 3), 0);
        SealedAuditLog log = Logs.filled(8, 2, 3, 3);
        for (int index : new int[] {-1, 4, 5, 8, 1 << 29, Integer.MIN_VALUE, Integer.MAX_VALUE}) {
            refused(checks, log, index);
        }
        for (int index = 0; index < 4; index++) {
            dropped(checks, Logs.filled(8, 2, 3, 3), index);
        }
        for (int index : new int[] {0, 15, 31}) {
            dropped(checks, Logs.filled(32, 8, 3, 29), index);
        }
        dropsAll(checks);
        writesOnAfterADrop(checks);
        checks.end();
    }

    private static void refused(Checks checks, SealedAuditLog log, int index) {
        String call = "dropRecord(" + index + ")";
        Map<String, Integer> before = State.of(log);
        checks.due(call, log.dropRecord(index), false);
        checks.unchanged(call, before, log);
    }

    private static void dropped(Checks checks, SealedAuditLog log, int index) {
        String call = "dropRecord(" + index + ")";
        log.tamper(0, 0);
        log.verify();
        log.armCrash(0);
        Map<String, Integer> before = State.of(log);
        int end = before.get("wEnd");
        String[] allowed = new String[end - 8 * index + 1];
        for (int q = 8 * index; q < end; q++) {
            allowed[q - 8 * index] = "byte " + q;
        }
        allowed[allowed.length - 1] = "wEnd";
        checks.due(call, log.dropRecord(index), true);
        checks.onlyChanged(call, before, log, allowed);
        checks.due(call + ": wEnd", log.writer(SealedAuditLog.W_END), end - 8);
        for (int q = 8 * index; q < end; q++) {
            checks.due(call + ": byte " + q, log.storedByte(q), q < end - 8 ? before.get("byte " + (q + 8)) : 0);
        }
    }

    private static void dropsAll(Checks checks) {
        SealedAuditLog log = Logs.filled(8, 2, 3, 3);
        for (int n = 0; n < 4; n++) {
            dropped(checks, log, 0);
        }
        refused(checks, log, 0);
        checks.due("verify", log.verify(), SealedAuditLog.V_ACCEPT);
    }

    private static void writesOnAfterADrop(Checks checks) {
        SealedAuditLog log = Logs.filled(8, 2, 3, 3);
        int tag = log.writer(SealedAuditLog.W_TAG);
        int key = log.header(SealedAuditLog.H_KEY);
        log.dropRecord(3);
        checks.due("append", log.append(50, 60), 3);
        int[] record = Logs.record(key, tag, 50, 3, 60);
        checks.bytes("append", log, 24, record);
        checks.bytes("checkpoint", log, 32, Logs.record(key, Logs.tagOf(record), 255, 4, 1));
        checks.due("verify", log.verify(), 3);
        checks.due("verifyReason", log.verifyReason(), SealedAuditLog.R_TAG);
    }
}
