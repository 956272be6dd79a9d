import java.util.Map;

/** Promise 8: tamper sets one written byte, and refuses all else. */
public final class Promise08TamperTest {
    public static void main(String[] args) {
        Checks checks = new Checks();
        refused(checks, new SealedAuditLog(8, 2), 0, 0);
        refused(checks, Logs.started(8, 2, 3), 0, 0);
        refused(checks, Logs.crashed(8, 2, 3, 3), 0, 0);
        SealedAuditLog log = Logs.filled(8, 2, 3, 3);
        log.tamper(1, 99);
        log.verify();
        log.armCrash(0);
        for (int pos : new int[] {-1, 32, 33, 63, 64, 256, Integer.MIN_VALUE, Integer.MAX_VALUE}) {
            refused(checks, log, pos, 1);
        }
        for (int value : new int[] {-1, 256, 257, Integer.MIN_VALUE, Integer.MAX_VALUE}) {
            refused(checks, log, 0, value);
            refused(checks, log, 31, value);
        }
        for (int pos = 0; pos < 32; pos++) {
            for (int value : new int[] {0, 1, 127, 128, 255, 255}) {
                tampered(checks, log, pos, value);
            }
        }
        tampersAFullLog(checks);
        checks.end();
    }

    private static void refused(Checks checks, SealedAuditLog log, int pos, int value) {
        String call = "tamper(" + pos + ", " + value + ")";
        Map<String, Integer> before = State.of(log);
        checks.due(call, log.tamper(pos, value), false);
        checks.unchanged(call, before, log);
    }

    private static void tampered(Checks checks, SealedAuditLog log, int pos, int value) {
        String call = "tamper(" + pos + ", " + value + ")";
        Map<String, Integer> before = State.of(log);
        checks.due(call, log.tamper(pos, value), true);
        checks.due(call + ": byte", log.storedByte(pos), value);
        checks.onlyChanged(call, before, log, "byte " + pos);
    }

    private static void tampersAFullLog(Checks checks) {
        SealedAuditLog log = Logs.filled(32, 8, 3, 29);
        checks.due("wEnd", log.writer(SealedAuditLog.W_END), 256);
        tampered(checks, log, 255, 200);
        refused(checks, log, 256, 200);
    }
}
