import java.util.Map;

/** Promise 11: storedByte answers 0..255 inside the capacity and -1 outside, in any state. */
public final class Promise11StoredByteTest {
    public static void main(String[] args) {
        Checks checks = new Checks();
        for (int records : new int[] {4, 9, 31, 32}) {
            reads(checks, new SealedAuditLog(records, 2), 8 * records);
            reads(checks, Logs.filled(records, 2, 8, 3), 8 * records);
            reads(checks, Logs.crashed(records, 2, 8, 3), 8 * records);
        }
        everyValue(checks);
        readsATornRecord(checks);
        checks.end();
    }

    private static void reads(Checks checks, SealedAuditLog log, int capacity) {
        Map<String, Integer> before = State.of(log);
        int[] outside = {-1, -8, capacity, capacity + 1, 256, 257, 1 << 30, Integer.MIN_VALUE, Integer.MAX_VALUE};
        for (int pos : outside) {
            checks.due("storedByte(" + pos + ")", log.storedByte(pos), -1);
        }
        checks.due("storedByte(0) is a byte", log.storedByte(0) >= 0, true);
        checks.due("last byte", log.storedByte(capacity - 1) >= 0, true);
        checks.unchanged("storedByte", before, log);
    }

    private static void everyValue(Checks checks) {
        SealedAuditLog log = Logs.filled(4, 2, 8, 3);
        for (int value = 0; value < 256; value++) {
            log.tamper(31, value);
            checks.due("storedByte(31)", log.storedByte(31), value);
        }
    }

    private static void readsATornRecord(Checks checks) {
        SealedAuditLog log = Logs.started(4, 2, 8);
        log.armCrash(3);
        log.append(5, 0xFEDC);
        checks.bytes("torn record", log, 0, 0, 0, 0xFE, 0xDC, 0);
    }
}
