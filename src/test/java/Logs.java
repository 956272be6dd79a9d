import java.lang.reflect.Field;

/** Logs in the states that the tests begin from, and records forged with a known key. */
final class Logs {
    private Logs() {
    }

    static SealedAuditLog started(int records, int epochLength, int key) {
        SealedAuditLog log = new SealedAuditLog(records, epochLength);
        log.start(key);
        return log;
    }

    /** Appends count records of kinds 1, 2, .. and payloads 1001, 1002, .. */
    static SealedAuditLog filled(int records, int epochLength, int key, int count) {
        SealedAuditLog log = started(records, epochLength, key);
        for (int n = 1; n <= count; n++) {
            log.append(n, 1000 + n);
        }
        return log;
    }

    static SealedAuditLog crashed(int records, int epochLength, int key, int count) {
        SealedAuditLog log = filled(records, epochLength, key, count);
        log.crash();
        return log;
    }

    static int storedTag(SealedAuditLog log, int index) {
        int tag = 0;
        for (int k = 4; k < 8; k++) {
            tag = tag << 8 | log.storedByte(8 * index + k);
        }
        return tag;
    }

    /** The bytes of a record whose tag is right for the given key and prev. */
    static int[] record(int key, int prev, int kind, int sequence, int payload) {
        int high = payload >>> 8;
        int low = payload & 0xFF;
        int tag = Model.tag(key, prev, kind, sequence, high, low);
        return new int[] {kind, sequence, high, low, tag >>> 24, tag >>> 16 & 0xFF, tag >>> 8 & 0xFF, tag & 0xFF};
    }

    static int tagOf(int[] record) {
        return record[4] << 24 | record[5] << 16 | record[6] << 8 | record[7];
    }

    static void tamper(SealedAuditLog log, int index, int[] record) {
        for (int k = 0; k < 8; k++) {
            log.tamper(8 * index + k, record[k]);
        }
    }

    /**
     * Puts a record into the log behind the program's back, also while it is crashed: some edges
     * that the document names for recover can't be reached by public calls.
     */
    static void plant(SealedAuditLog log, int index, int[] record) {
        try {
            Field field = SealedAuditLog.class.getDeclaredField("log");
            field.setAccessible(true);
            byte[] bytes = (byte[]) field.get(log);
            for (int k = 0; k < 8; k++) {
                bytes[8 * index + k] = (byte) record[k];
            }
        } catch (ReflectiveOperationException e) {
            throw new AssertionError(e);
        }
    }
}
