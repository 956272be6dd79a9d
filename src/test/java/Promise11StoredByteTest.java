/** Promise 11: storedByte answers 0..255 inside the capacity and -1 outside, in any state. */
public final class Promise11StoredByteTest {
    public static void main(String[] args) {
        Checks checks = new Checks();
        negative(checks);
        fromTheCapacityOn(checks);
        edges(checks);
        afterTheEnd(checks);
        everyValue(checks);
        tornRecord(checks);
        inAnyState(checks);
        checks.end();
    }

    private static void negative(Checks checks) {
        checks.says("else -1 (negative pos");
        for (int records : new int[] {4, 9, 31, 32}) {
            SealedAuditLog log = Logs.filled(records, 2, 8, 40);
            for (int pos : new int[] {-1, -2, -8, -256, Integer.MIN_VALUE}) {
                checks.due("storedByte(" + pos + ")", log.storedByte(pos), -1);
            }
        }
    }

    private static void fromTheCapacityOn(Checks checks) {
        checks.says("else -1 .. and pos >= C)");
        for (int records = 4; records <= 32; records++) {
            SealedAuditLog log = Logs.filled(records, 2, 8, 40);
            for (int pos = 8 * records; pos <= 258; pos++) {
                checks.due("storedByte(" + pos + ")", log.storedByte(pos), -1);
            }
            checks.due("storedByte(2^30)", log.storedByte(1 << 30), -1);
            checks.due("storedByte(MAX)", log.storedByte(Integer.MAX_VALUE), -1);
        }
    }

    private static void edges(Checks checks) {
        checks.says("it answers the log byte at pos as a value in 0..255 if pos is in 0..C-1", "pos 0 and C-1");
        for (int records : new int[] {4, 32}) {
            SealedAuditLog log = Logs.filled(records, 8, 8, 29);
            log.tamper(0, 201);
            log.tamper(8 * records - 1, 202);
            checks.due("first byte", log.storedByte(0), 201);
            checks.due("last byte", log.storedByte(8 * records - 1), 202);
        }
    }

    private static void afterTheEnd(Checks checks) {
        checks.says("if pos is in 0..C-1", "also at wEnd and beyond");
        SealedAuditLog log = Logs.filled(8, 2, 8, 1);
        checks.zeros("no record yet", log, 8, 64);
        checks.due("byte after the last", log.storedByte(64), -1);
    }

    private static void everyValue(Checks checks) {
        checks.says("the log byte at pos as a value in 0..255");
        SealedAuditLog log = Logs.filled(4, 2, 8, 3);
        for (int value = 0; value <= 255; value++) {
            log.tamper(31, value);
            checks.due("storedByte(31)", log.storedByte(31), value);
        }
    }

    private static void tornRecord(Checks checks) {
        checks.says("works in any state", "crashed: the bytes of a torn record can be read");
        SealedAuditLog log = Logs.started(4, 2, 8);
        log.armCrash(3);
        log.append(5, 0xFEDC);
        checks.bytes("torn record", log, 0, 0, 0, 0xFE, 0xDC, 0);
    }

    private static void inAnyState(Checks checks) {
        checks.says("works in any state .. It changes nothing.");
        Logs.inEveryState(8, 2, 8).forEach((state, log) -> {
            checks.inert("storedByte(-1), " + state, log, () -> log.storedByte(-1), -1);
            checks.inert("storedByte(64), " + state, log, () -> log.storedByte(64), -1);
            checks.inert("storedByte(63), " + state, log, () -> log.storedByte(63), 0);
        });
    }
}
