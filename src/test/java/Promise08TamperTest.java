import java.util.Map;

/** Promise 8: tamper sets one written byte, and refuses all else. */
public final class Promise08TamperTest {
    public static void main(String[] args) {
        Checks checks = new Checks();
        notStarted(checks);
        crashed(checks);
        emptyLog(checks);
        posBelow(checks);
        posAbove(checks);
        posAtTheEdges(checks);
        fullLog(checks);
        afterADrop(checks);
        wrongValues(checks);
        everyValue(checks);
        equalValue(checks);
        takesNoStep(checks);
        leavesTheRest(checks);
        checks.end();
    }

    private static void refused(Checks checks, SealedAuditLog log, int pos, int value) {
        checks.refused("tamper(" + pos + ", " + value + ")", log, () -> log.tamper(pos, value));
    }

    private static void tampered(Checks checks, SealedAuditLog log, int pos, int value) {
        String call = "tamper(" + pos + ", " + value + ")";
        Map<String, Integer> before = State.of(log);
        checks.due(call, log.tamper(pos, value), true);
        checks.due(call + ": byte", log.storedByte(pos), value);
        checks.onlyChanged(call, before, log, "byte " + pos);
    }

    private static void notStarted(Checks checks) {
        checks.says("Refused (answer false, nothing changes) if not started");
        refused(checks, new SealedAuditLog(8, 2), 0, 0);
        refused(checks, new SealedAuditLog(8, 2), 0, 7);
    }

    private static void crashed(Checks checks) {
        checks.says("Refused (answer false, nothing changes) .. if crashed");
        refused(checks, Logs.crashed(8, 2, 3, 3), 0, 7);
        refused(checks, Logs.crashed(8, 2, 3, 3), 31, 7);
        refused(checks, Logs.torn(8, 2, 3, 1, 12), 0, 7);
        SealedAuditLog log = Logs.crashed(8, 2, 3, 3);
        log.recover();
        tampered(checks, log, 0, 7);
    }

    private static void emptyLog(Checks checks) {
        checks.says("Refused (answer false, nothing changes) .. if pos is not in 0..wEnd-1", "an empty log");
        refused(checks, Logs.started(8, 2, 3), 0, 7);
        refused(checks, Logs.started(8, 2, 3), -1, 7);
        refused(checks, Logs.started(8, 2, 3), 8, 7);
    }

    private static void posBelow(Checks checks) {
        checks.says("Refused (answer false, nothing changes) .. if pos is not in 0..wEnd-1", "pos below 0");
        for (int pos : new int[] {-1, -8, -32, -256, Integer.MIN_VALUE}) {
            refused(checks, Logs.filled(8, 2, 3, 3), pos, 7);
        }
    }

    private static void posAbove(Checks checks) {
        checks.says("Refused (answer false, nothing changes) .. if pos is not in 0..wEnd-1",
            "pos from wEnd on, within the capacity and beyond");
        for (int pos : new int[] {32, 33, 39, 63, 64, 255, 256, Integer.MAX_VALUE}) {
            refused(checks, Logs.filled(8, 2, 3, 3), pos, 7);
        }
    }

    private static void posAtTheEdges(Checks checks) {
        checks.says("Otherwise the byte at pos becomes value", "pos 0, wEnd-1 and all between");
        SealedAuditLog log = Logs.filled(8, 2, 3, 3);
        for (int pos = 0; pos < 32; pos++) {
            tampered(checks, log, pos, log.storedByte(pos) ^ 0xFF);
        }
    }

    private static void fullLog(Checks checks) {
        checks.says("pos is not in 0..wEnd-1", "wEnd = C");
        SealedAuditLog small = Logs.filled(4, 8, 3, 4);
        tampered(checks, small, 31, 200);
        refused(checks, small, 32, 200);
        SealedAuditLog large = Logs.filled(32, 8, 3, 29);
        tampered(checks, large, 255, 200);
        refused(checks, large, 256, 200);
    }

    private static void afterADrop(Checks checks) {
        checks.says("pos is not in 0..wEnd-1", "wEnd as a drop has left it");
        SealedAuditLog log = Logs.filled(8, 2, 3, 3);
        log.dropRecord(0);
        tampered(checks, log, 23, 7);
        refused(checks, log, 24, 7);
        refused(checks, log, 31, 7);
    }

    private static void wrongValues(Checks checks) {
        checks.says("Refused (answer false, nothing changes) .. if value is not in 0..255");
        for (int value : new int[] {-1, -128, -256, 256, 257, 511, Integer.MIN_VALUE, Integer.MAX_VALUE}) {
            refused(checks, Logs.filled(8, 2, 3, 3), 0, value);
            refused(checks, Logs.filled(8, 2, 3, 3), 31, value);
        }
    }

    private static void everyValue(Checks checks) {
        checks.says("the byte at pos becomes value", "0 to 255");
        SealedAuditLog log = Logs.filled(8, 2, 3, 3);
        for (int value = 0; value <= 255; value++) {
            tampered(checks, log, 16, value);
        }
    }

    private static void equalValue(Checks checks) {
        checks.says("the byte at pos becomes value (also when it is already equal) and the answer is true");
        SealedAuditLog log = Logs.filled(8, 2, 3, 3);
        for (int pos = 0; pos < 32; pos++) {
            int at = pos;
            checks.inert("tamper with the same value", log, () -> log.tamper(at, log.storedByte(at)), true);
        }
        checks.due("verify()", log.verify(), SealedAuditLog.V_ACCEPT);
    }

    private static void takesNoStep(Checks checks) {
        checks.says("It is not a step: budget is unchanged and no crash can happen");
        for (int budget : new int[] {-1, 0, 1, 5}) {
            SealedAuditLog log = Logs.filled(8, 2, 3, 3);
            log.armCrash(budget);
            tampered(checks, log, 5, 99);
            checks.mode("tamper with budget " + budget, log, budget, false);
        }
    }

    private static void leavesTheRest(Checks checks) {
        checks.says("Nothing else changes: not the other bytes, the header, the writer state or reason");
        SealedAuditLog log = Logs.filled(8, 2, 3, 3);
        log.tamper(1, 99);
        log.verify();
        tampered(checks, log, 1, 0);
        checks.due("reason", log.verifyReason(), SealedAuditLog.R_SEQ);
    }
}
