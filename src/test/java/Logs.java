import java.lang.reflect.Field;
import java.util.Arrays;
import java.util.LinkedHashMap;
import java.util.Map;

/** Logs in the states that the tests begin from, and records forged with a known key. */
final class Logs {
    private Logs() {
    }

    static SealedAuditLog started(int records, int epochLength, int key) {
        SealedAuditLog log = new SealedAuditLog(records, epochLength);
        log.start(key);
        return log;
    }

    /** Appends count records of kinds 1, 2, .. and payloads 1001, 1002, .. */
    static SealedAuditLog filled(int records, int epochLength, int key, int count) {
        SealedAuditLog log = started(records, epochLength, key);
        for (int n = 1; n <= count; n++) {
            log.append(n, 1000 + n);
        }
        return log;
    }

    static SealedAuditLog crashed(int records, int epochLength, int key, int count) {
        SealedAuditLog log = filled(records, epochLength, key, count);
        log.crash();
        return log;
    }

    /** A writer that crashed after this many steps of its next append. */
    static SealedAuditLog torn(int records, int epochLength, int key, int count, int steps) {
        SealedAuditLog log = filled(records, epochLength, key, count);
        log.armCrash(steps);
        log.append(count + 1, 1001 + count);
        return log;
    }

    /** A log with E = 2 at the start of this epoch; earlier records are dropped to make room. */
    static SealedAuditLog inEpoch(int records, int epoch) {
        SealedAuditLog log = started(records, 2, 4711);
        for (int e = 0; e < epoch; e++) {
            log.dropRecord(0);
            log.dropRecord(0);
            log.dropRecord(0);
            log.append(1, 1);
            log.append(2, 2);
        }
        return log;
    }

    /** New, empty, in mid-epoch, after a checkpoint, full, failed by verify, crashed, recovered. */
    static Map<String, SealedAuditLog> inEveryState(int records, int epochLength, int key) {
        Map<String, SealedAuditLog> logs = new LinkedHashMap<>();
        logs.put("new", new SealedAuditLog(records, epochLength));
        logs.put("empty", started(records, epochLength, key));
        logs.put("mid-epoch", filled(records, epochLength, key, epochLength - 1));
        logs.put("after a checkpoint", filled(records, epochLength, key, epochLength));
        logs.put("full", filled(records, epochLength, key, records));
        SealedAuditLog bad = filled(records, epochLength, key, epochLength);
        bad.tamper(0, 0);
        bad.verify();
        logs.put("bad", bad);
        SealedAuditLog badAndCrashed = filled(records, epochLength, key, epochLength);
        badAndCrashed.tamper(1, 77);
        badAndCrashed.verify();
        badAndCrashed.crash();
        logs.put("bad and crashed", badAndCrashed);
        logs.put("crashed while empty", crashed(records, epochLength, key, 0));
        logs.put("crashed after a checkpoint", crashed(records, epochLength, key, epochLength));
        logs.put("crashed in a record", torn(records, epochLength, key, 1, 4));
        logs.put("crashed in a checkpoint", torn(records, epochLength, key, epochLength - 1, 12));
        SealedAuditLog recovered = torn(records, epochLength, key, 1, 4);
        recovered.recover();
        logs.put("recovered", recovered);
        return logs;
    }

    static int storedTag(SealedAuditLog log, int index) {
        int tag = 0;
        for (int k = 4; k < 8; k++) {
            tag = tag << 8 | log.storedByte(8 * index + k);
        }
        return tag;
    }

    /** The bytes of a record whose tag is right for the given key and prev. */
    static int[] record(int key, int prev, int kind, int sequence, int payload) {
        int high = payload >>> 8;
        int low = payload & 0xFF;
        int tag = Model.tag(key, prev, kind, sequence, high, low);
        return new int[] {kind, sequence, high, low, tag >>> 24, tag >>> 16 & 0xFF, tag >>> 8 & 0xFF, tag & 0xFF};
    }

    /** The bytes of a record as the log has them. */
    static int[] stored(SealedAuditLog log, int index) {
        int[] record = new int[8];
        for (int k = 0; k < 8; k++) {
            record[k] = log.storedByte(8 * index + k);
        }
        return record;
    }

    static int tagOf(int[] record) {
        return record[4] << 24 | record[5] << 16 | record[6] << 8 | record[7];
    }

    static void tamper(SealedAuditLog log, int index, int[] record) {
        for (int k = 0; k < 8; k++) {
            log.tamper(8 * index + k, record[k]);
        }
    }

    static void plant(SealedAuditLog log, int index, int[] record) {
        for (int k = 0; k < 8; k++) {
            plant(log, 8 * index + k, record[k]);
        }
    }

    /**
     * Puts a byte into the log behind the program's back, also after wEnd and while it is crashed:
     * some edges that the document names can't be reached by public calls.
     */
    static void plant(SealedAuditLog log, int pos, int value) {
        try {
            Field field = SealedAuditLog.class.getDeclaredField("log");
            field.setAccessible(true);
            byte[] bytes = (byte[]) field.get(log);
            bytes[pos] = (byte) value;
        } catch (ReflectiveOperationException e) {
            throw new AssertionError(e);
        }
    }

    /** A recovered log of this many records, all data and all of one epoch: no room for its checkpoint. */
    static SealedAuditLog epochWithoutCheckpoint(int records, int key) {
        SealedAuditLog log = crashed(records, records, key, 0);
        int prev = 0;
        for (int i = 0; i < records; i++) {
            int[] record = record(key, prev, 9, i, i);
            plant(log, i, record);
            prev = tagOf(record);
        }
        log.recover();
        return log;
    }

    /** The names, as State has them, of the bytes from..upTo-1, and the given ones. */
    static String[] bytesAnd(int from, int upTo, String... names) {
        String[] all = Arrays.copyOf(names, names.length + upTo - from);
        for (int pos = from; pos < upTo; pos++) {
            all[names.length + pos - from] = "byte " + pos;
        }
        return all;
    }
}
