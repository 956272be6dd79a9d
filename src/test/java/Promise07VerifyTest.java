import java.util.Map;

/** Promise 7: the verifier's refusals, its checks in order, and the reason it leaves. */
public final class Promise07VerifyTest {
    private static final int KEY = -987654321;

    public static void main(String[] args) {
        Checks checks = new Checks();
        refusals(checks);
        accepts(checks);
        everyByteCounts(checks);
        forgedRecords(checks);
        checksInOrder(checks);
        firstBadRecord(checks);
        readsOnlyTheLog(checks);
        checks.end();
    }

    private static void verified(Checks checks, String what, SealedAuditLog log, int due, int reason) {
        Map<String, Integer> before = State.of(log);
        checks.due(what + ": verify()", log.verify(), due);
        checks.due(what + ": verifyReason()", log.verifyReason(), reason);
        checks.onlyChanged(what + ": verify()", before, log, "reason");
    }

    private static void refusals(Checks checks) {
        SealedAuditLog log = new SealedAuditLog(8, 2);
        verified(checks, "not started", log, SealedAuditLog.V_NOT_STARTED, SealedAuditLog.R_NONE);
        log.start(KEY);
        log.crash();
        verified(checks, "crashed", log, SealedAuditLog.V_CRASHED, SealedAuditLog.R_NONE);
        log.recover();
        log.append(1, 1);
        log.tamper(0, 0);
        verified(checks, "tampered", log, 0, SealedAuditLog.R_KIND);
        log.crash();
        verified(checks, "crashed again", log, SealedAuditLog.V_CRASHED, SealedAuditLog.R_KIND);
        log.recover();
        verified(checks, "recovered", log, SealedAuditLog.V_ACCEPT, SealedAuditLog.R_NONE);
    }

    private static void accepts(Checks checks) {
        for (int length = 2; length <= 8; length++) {
            for (int count = 0; count <= 31; count++) {
                SealedAuditLog log = Logs.filled(32, length, KEY + count, count);
                verified(checks, count + " records", log, SealedAuditLog.V_ACCEPT, SealedAuditLog.R_NONE);
            }
        }
    }

    /** A change of any one bit is found at its own record; a change back is accepted again. */
    private static void everyByteCounts(Checks checks) {
        SealedAuditLog log = Logs.filled(8, 2, KEY, 5);
        for (int pos = 0; pos < 56; pos++) {
            int held = log.storedByte(pos);
            for (int bit = 0; bit < 8; bit++) {
                int value = held ^ 1 << bit;
                log.tamper(pos, value);
                verified(checks, "bit " + bit + " of byte " + pos, log, pos / 8, reasonOf(pos, value));
            }
            log.tamper(pos, held);
            verified(checks, "put back", log, SealedAuditLog.V_ACCEPT, SealedAuditLog.R_NONE);
        }
    }

    private static int reasonOf(int pos, int value) {
        boolean checkpoint = pos / 8 % 3 == 2;
        if (pos % 8 == 0 && value == 0) {
            return SealedAuditLog.R_KIND;
        }
        if (pos % 8 == 0 && checkpoint != (value == 255)) {
            return SealedAuditLog.R_ORDER;
        }
        if (pos % 8 == 1) {
            return SealedAuditLog.R_SEQ;
        }
        boolean payload = pos % 8 == 2 || pos % 8 == 3;
        return checkpoint && payload ? SealedAuditLog.R_EPOCH : SealedAuditLog.R_TAG;
    }

    /** Right tags do not make up for a wrong kind, order, sequence or epoch. */
    private static void forgedRecords(Checks checks) {
        int key = Model.ratchet(KEY);
        forged(checks, 4, key, 9, 4, 9, SealedAuditLog.V_ACCEPT, SealedAuditLog.R_NONE);
        forged(checks, 4, key, 0, 4, 9, 4, SealedAuditLog.R_KIND);
        forged(checks, 4, key, 255, 4, 1, 4, SealedAuditLog.R_ORDER);
        forged(checks, 4, key, 9, 5, 9, 4, SealedAuditLog.R_SEQ);
        forged(checks, 4, KEY, 9, 4, 9, 4, SealedAuditLog.R_TAG);
        forged(checks, 4, Model.ratchet(key), 9, 4, 9, 4, SealedAuditLog.R_TAG);
        forged(checks, 5, key, 255, 5, 1, SealedAuditLog.V_ACCEPT, SealedAuditLog.R_NONE);
        forged(checks, 5, key, 0, 5, 1, 5, SealedAuditLog.R_KIND);
        forged(checks, 5, key, 254, 5, 1, 5, SealedAuditLog.R_ORDER);
        forged(checks, 5, key, 255, 2, 1, 5, SealedAuditLog.R_SEQ);
        forged(checks, 5, key, 255, 5, 0, 5, SealedAuditLog.R_EPOCH);
        forged(checks, 5, key, 255, 5, 257, 5, SealedAuditLog.R_EPOCH);
        forged(checks, 5, KEY, 255, 5, 1, 5, SealedAuditLog.R_TAG);
    }

    private static void forged(Checks checks, int index, int key, int kind, int sequence, int payload, int due,
            int reason) {
        SealedAuditLog log = Logs.filled(8, 2, KEY, 4);
        for (int i = 5; i > index; i--) {
            log.dropRecord(i);
        }
        Logs.tamper(log, index, Logs.record(key, Logs.storedTag(log, index - 1), kind, sequence, payload));
        verified(checks, "record " + index + " of kind " + kind, log, due, reason);
    }

    /** All wrong at once: each check is seen only when those before it are mended. */
    private static void checksInOrder(Checks checks) {
        SealedAuditLog log = Logs.filled(8, 2, KEY, 2);
        int tagByte = log.storedByte(23);
        int[][] changes = {{16, 0}, {17, 9}, {19, 9}, {23, tagByte ^ 1}};
        for (int[] change : changes) {
            log.tamper(change[0], change[1]);
        }
        verified(checks, "all wrong", log, 2, SealedAuditLog.R_KIND);
        log.tamper(16, 7);
        verified(checks, "kind not 0", log, 2, SealedAuditLog.R_ORDER);
        log.tamper(16, 255);
        verified(checks, "order right", log, 2, SealedAuditLog.R_SEQ);
        log.tamper(17, 2);
        verified(checks, "sequence right", log, 2, SealedAuditLog.R_EPOCH);
        log.tamper(19, 0);
        verified(checks, "epoch right", log, 2, SealedAuditLog.R_TAG);
        log.tamper(23, tagByte);
        verified(checks, "tag right", log, SealedAuditLog.V_ACCEPT, SealedAuditLog.R_NONE);
    }

    private static void firstBadRecord(Checks checks) {
        SealedAuditLog log = Logs.filled(32, 2, KEY, 20);
        for (int i = 29; i >= 0; i--) {
            log.tamper(8 * i + 1, 77);
            verified(checks, "bad from record " + i, log, i, SealedAuditLog.R_SEQ);
        }
    }

    private static void readsOnlyTheLog(Checks checks) {
        // A dropped last record leaves wTag, wSlot and the header as they were.
        SealedAuditLog log = Logs.filled(8, 2, KEY, 4);
        log.dropRecord(5);
        verified(checks, "last record dropped", log, SealedAuditLog.V_ACCEPT, SealedAuditLog.R_NONE);
        log.append(9, 9);
        verified(checks, "data where a checkpoint is due", log, 5, SealedAuditLog.R_ORDER);
        log = Logs.filled(8, 2, KEY, 1);
        log.dropRecord(0);
        log.armCrash(0);
        verified(checks, "empty", log, SealedAuditLog.V_ACCEPT, SealedAuditLog.R_NONE);
        checks.mode("verify takes no step", log, 0, false);
    }
}
