import java.util.Map;

/** Promise 7: the verifier's refusals, its checks in order, and the reason it leaves. */
public final class Promise07VerifyTest {
    private static final int KEY = -987654321;

    public static void main(String[] args) {
        Checks checks = new Checks();
        notStarted(checks);
        crashed(checks);
        emptyLog(checks);
        rightLogs(checks);
        fullLog(checks);
        kindZero(checks);
        wrongOrder(checks);
        wrongSequence(checks);
        wrongEpoch(checks);
        wrongTag(checks);
        keysOfOtherEpochs(checks);
        checksInOrder(checks);
        everyBitCounts(checks);
        firstReject(checks);
        goesOnFromTheStoredTag(checks);
        placesOfCheckpoints(checks);
        readsOnlyUpToTheEnd(checks);
        readsNothingElse(checks);
        changesOnlyTheReason(checks);
        reasonIsSetAnew(checks);
        reasonInAnyState(checks);
        noReasonYet(checks);
        checks.end();
    }

    private static void verified(Checks checks, String what, SealedAuditLog log, int due, int reason) {
        Map<String, Integer> before = State.of(log);
        checks.due(what + ": verify()", log.verify(), due);
        checks.due(what + ": verifyReason()", log.verifyReason(), reason);
        checks.onlyChanged(what + ": verify()", before, log, "reason");
    }

    private static void accepted(Checks checks, String what, SealedAuditLog log) {
        verified(checks, what, log, SealedAuditLog.V_ACCEPT, SealedAuditLog.R_NONE);
    }

    private static void notStarted(Checks checks) {
        checks.says("Refusals (reason unchanged, nothing changes): not started: V_NOT_STARTED");
        SealedAuditLog log = new SealedAuditLog(8, 2);
        checks.refused("verify()", log, log::verify, SealedAuditLog.V_NOT_STARTED);
    }

    private static void crashed(Checks checks) {
        checks.says("Refusals (reason unchanged, nothing changes): .. else crashed: V_CRASHED");
        SealedAuditLog good = Logs.crashed(8, 2, KEY, 3);
        checks.refused("verify()", good, good::verify, SealedAuditLog.V_CRASHED);
        SealedAuditLog empty = Logs.crashed(8, 2, KEY, 0);
        checks.refused("verify() of an empty log", empty, empty::verify, SealedAuditLog.V_CRASHED);
        SealedAuditLog bad = Logs.filled(8, 2, KEY, 3);
        bad.tamper(0, 0);
        bad.verify();
        bad.crash();
        checks.refused("verify() after a reject", bad, bad::verify, SealedAuditLog.V_CRASHED);
        checks.due("the old reason", bad.verifyReason(), SealedAuditLog.R_KIND);
        for (int steps = 0; steps <= 16; steps++) {
            SealedAuditLog torn = Logs.torn(8, 2, KEY, 1, steps);
            checks.refused("verify() after " + steps + " steps", torn, torn::verify, SealedAuditLog.V_CRASHED);
        }
    }

    private static void emptyLog(Checks checks) {
        checks.says("If every record passes (also when wEnd = 0), the answer is V_ACCEPT");
        accepted(checks, "started", Logs.started(8, 2, KEY));
        SealedAuditLog dropped = Logs.filled(8, 2, KEY, 3);
        for (int n = 0; n < 4; n++) {
            dropped.tamper(0, 0);
            verified(checks, "bad record", dropped, 0, SealedAuditLog.R_KIND);
            dropped.dropRecord(0);
        }
        accepted(checks, "all dropped", dropped);
    }

    private static void rightLogs(Checks checks) {
        checks.says("If every record passes .. the answer is V_ACCEPT");
        for (int length = 2; length <= 8; length++) {
            for (int count = 0; count <= 31; count++) {
                accepted(checks, count + " records", Logs.filled(32, length, KEY + count, count));
            }
        }
    }

    private static void fullLog(Checks checks) {
        checks.says("for i = 0 .. wEnd/8 - 1 in order", "the last record of a full log");
        for (int records : new int[] {4, 32}) {
            SealedAuditLog log = Logs.filled(records, 8, KEY, 29);
            checks.due("wEnd", log.writer(SealedAuditLog.W_END), 8 * records);
            accepted(checks, "full log", log);
            log.tamper(8 * records - 1, log.storedByte(8 * records - 1) ^ 1);
            verified(checks, "last byte changed", log, records - 1, SealedAuditLog.R_TAG);
        }
    }

    /** The last record is forged, with a tag that is right for the given key. */
    private static void forged(Checks checks, int index, int key, int[] kindSequencePayload, int reason) {
        SealedAuditLog log = Logs.filled(8, 2, KEY, 4);
        for (int i = 5; i > index; i--) {
            log.dropRecord(i);
        }
        int prev = index == 0 ? 0 : Logs.storedTag(log, index - 1);
        int[] b = kindSequencePayload;
        Logs.tamper(log, index, Logs.record(key, prev, b[0], b[1], b[2]));
        int due = reason == SealedAuditLog.R_NONE ? SealedAuditLog.V_ACCEPT : index;
        verified(checks, "record " + index + ": " + b[0] + ", " + b[1] + ", " + b[2], log, due, reason);
    }

    private static void kindZero(Checks checks) {
        checks.says("1. b0 == 0: reject with R_KIND");
        int key = Model.ratchet(KEY);
        forged(checks, 0, KEY, new int[] {0, 0, 9}, SealedAuditLog.R_KIND);
        forged(checks, 4, key, new int[] {0, 4, 9}, SealedAuditLog.R_KIND);
        forged(checks, 5, key, new int[] {0, 5, 1}, SealedAuditLog.R_KIND);
        // With key 0, eight zero bytes at the start have the right tag.
        SealedAuditLog log = Logs.filled(8, 2, 0, 1);
        Logs.tamper(log, 0, new int[8]);
        verified(checks, "zero record", log, 0, SealedAuditLog.R_KIND);
    }

    private static void wrongOrder(Checks checks) {
        checks.says("2. (j == E) differs from (b0 == 255): reject with R_ORDER");
        int key = Model.ratchet(KEY);
        forged(checks, 0, KEY, new int[] {255, 0, 0}, SealedAuditLog.R_ORDER);
        forged(checks, 1, KEY, new int[] {255, 1, 0}, SealedAuditLog.R_ORDER);
        forged(checks, 3, key, new int[] {255, 3, 1}, SealedAuditLog.R_ORDER);
        forged(checks, 4, key, new int[] {255, 4, 1}, SealedAuditLog.R_ORDER);
        forged(checks, 2, KEY, new int[] {254, 2, 0}, SealedAuditLog.R_ORDER);
        forged(checks, 5, key, new int[] {1, 5, 1}, SealedAuditLog.R_ORDER);
        forged(checks, 4, key, new int[] {254, 4, 1}, SealedAuditLog.R_NONE);
        forged(checks, 4, key, new int[] {1, 4, 1}, SealedAuditLog.R_NONE);
    }

    private static void wrongSequence(Checks checks) {
        checks.says("3. b1 != i & 0xFF: reject with R_SEQ");
        int key = Model.ratchet(KEY);
        for (int sequence : new int[] {0, 3, 5, 36, 132, 255}) {
            forged(checks, 4, key, new int[] {9, sequence, 9}, SealedAuditLog.R_SEQ);
        }
        forged(checks, 0, KEY, new int[] {9, 1, 9}, SealedAuditLog.R_SEQ);
        forged(checks, 5, key, new int[] {255, 4, 1}, SealedAuditLog.R_SEQ);
        forged(checks, 5, key, new int[] {255, 2, 1}, SealedAuditLog.R_SEQ);
    }

    private static void wrongEpoch(Checks checks) {
        checks.says("4. j == E and b2 * 256 + b3 != e & 0xFFFF: reject with R_EPOCH");
        int key = Model.ratchet(KEY);
        for (int payload : new int[] {0, 2, 256, 257, 65535}) {
            forged(checks, 5, key, new int[] {255, 5, payload}, SealedAuditLog.R_EPOCH);
            forged(checks, 4, key, new int[] {9, 4, payload}, SealedAuditLog.R_NONE);
        }
        forged(checks, 2, KEY, new int[] {255, 2, 1}, SealedAuditLog.R_EPOCH);
        forged(checks, 2, KEY, new int[] {255, 2, 0}, SealedAuditLog.R_NONE);
        forged(checks, 5, key, new int[] {255, 5, 1}, SealedAuditLog.R_NONE);
    }

    private static void wrongTag(Checks checks) {
        checks.says("5. stored tag != tag(K, prev, b0, b1, b2, b3): reject with R_TAG");
        for (int pos = 4; pos < 8; pos++) {
            for (int value = 0; value < 256; value++) {
                SealedAuditLog log = Logs.filled(8, 2, KEY, 1);
                int held = log.storedByte(pos);
                log.tamper(pos, value);
                boolean same = value == held;
                verified(checks, "byte " + pos + " is " + value, log, same ? SealedAuditLog.V_ACCEPT : 0,
                    same ? SealedAuditLog.R_NONE : SealedAuditLog.R_TAG);
            }
        }
    }

    private static void keysOfOtherEpochs(Checks checks) {
        checks.says("if j == E then K = ratchet(K)");
        int key = Model.ratchet(KEY);
        forged(checks, 2, key, new int[] {255, 2, 0}, SealedAuditLog.R_TAG);
        forged(checks, 3, KEY, new int[] {9, 3, 9}, SealedAuditLog.R_TAG);
        forged(checks, 3, key, new int[] {9, 3, 9}, SealedAuditLog.R_NONE);
        forged(checks, 4, Model.ratchet(key), new int[] {9, 4, 9}, SealedAuditLog.R_TAG);
        forged(checks, 5, KEY, new int[] {255, 5, 1}, SealedAuditLog.R_TAG);
        forged(checks, 5, Model.ratchet(key), new int[] {255, 5, 1}, SealedAuditLog.R_TAG);
    }

    private static void checksInOrder(Checks checks) {
        checks.says("the checks in this order are", "each is seen only when those before it are mended");
        SealedAuditLog log = Logs.filled(8, 2, KEY, 2);
        int tagByte = log.storedByte(23);
        int[][] changes = {{16, 0}, {17, 9}, {19, 9}, {23, tagByte ^ 1}};
        for (int[] change : changes) {
            log.tamper(change[0], change[1]);
        }
        verified(checks, "all wrong", log, 2, SealedAuditLog.R_KIND);
        log.tamper(16, 7);
        verified(checks, "kind not 0", log, 2, SealedAuditLog.R_ORDER);
        log.tamper(16, 255);
        verified(checks, "order right", log, 2, SealedAuditLog.R_SEQ);
        log.tamper(17, 2);
        verified(checks, "sequence right", log, 2, SealedAuditLog.R_EPOCH);
        log.tamper(19, 0);
        verified(checks, "epoch right", log, 2, SealedAuditLog.R_TAG);
        log.tamper(23, tagByte);
        accepted(checks, "tag right", log);
    }

    private static void everyBitCounts(Checks checks) {
        checks.says("On the first reject: reason = that reason and the answer is i",
            "any one bit changed, and put back");
        SealedAuditLog log = Logs.filled(8, 2, KEY, 5);
        for (int pos = 0; pos < 56; pos++) {
            int held = log.storedByte(pos);
            for (int bit = 0; bit < 8; bit++) {
                int value = held ^ 1 << bit;
                log.tamper(pos, value);
                verified(checks, "bit " + bit + " of byte " + pos, log, pos / 8, reasonOf(pos, value));
            }
            log.tamper(pos, held);
            accepted(checks, "put back", log);
        }
    }

    private static int reasonOf(int pos, int value) {
        boolean checkpoint = pos / 8 % 3 == 2;
        if (pos % 8 == 0 && value == 0) {
            return SealedAuditLog.R_KIND;
        }
        if (pos % 8 == 0 && checkpoint != (value == 255)) {
            return SealedAuditLog.R_ORDER;
        }
        if (pos % 8 == 1) {
            return SealedAuditLog.R_SEQ;
        }
        boolean payload = pos % 8 == 2 || pos % 8 == 3;
        return checkpoint && payload ? SealedAuditLog.R_EPOCH : SealedAuditLog.R_TAG;
    }

    private static void firstReject(Checks checks) {
        checks.says("the answer is i (the loop stops)");
        SealedAuditLog log = Logs.filled(32, 2, KEY, 20);
        for (int i = 29; i >= 0; i--) {
            log.tamper(8 * i + (i % 2 == 0 ? 1 : 0), i % 2 == 0 ? 77 : 0);
            int reason = i % 2 == 0 ? SealedAuditLog.R_SEQ : SealedAuditLog.R_KIND;
            verified(checks, "bad from record " + i, log, i, reason);
        }
    }

    private static void goesOnFromTheStoredTag(Checks checks) {
        checks.says("If no check rejects record i: prev = its stored tag");
        SealedAuditLog log = Logs.filled(8, 3, KEY, 2);
        int[] first = Logs.record(KEY, 0, 99, 0, 12);
        Logs.tamper(log, 0, first);
        verified(checks, "record 1 has the old prev", log, 1, SealedAuditLog.R_TAG);
        Logs.tamper(log, 1, Logs.record(KEY, Logs.tagOf(first), 2, 1, 1002));
        accepted(checks, "record 1 has the new prev", log);
    }

    private static void placesOfCheckpoints(Checks checks) {
        checks.says("j = i % (E + 1), e = i / (E + 1)");
        for (int length = 2; length <= 8; length++) {
            for (int i = 0; i < 32 - 32 % (length + 1); i++) {
                SealedAuditLog log = Logs.filled(32, length, KEY, 32);
                boolean last = i % (length + 1) == length;
                log.tamper(8 * i, last ? 9 : 255);
                verified(checks, "E = " + length + ", kind of record " + i, log, i, SealedAuditLog.R_ORDER);
                log.tamper(8 * i, last ? 255 : 9);
                log.tamper(8 * i + 3, last ? i / (length + 1) + 1 : 0);
                log.tamper(8 * i + 2, 0);
                int reason = last ? SealedAuditLog.R_EPOCH : SealedAuditLog.R_TAG;
                verified(checks, "E = " + length + ", payload of record " + i, log, i, reason);
            }
        }
    }

    private static void readsOnlyUpToTheEnd(Checks checks) {
        checks.says("it reads only vKey, E and the log bytes at offsets 0..wEnd-1");
        for (int count = 0; count <= 4; count++) {
            SealedAuditLog log = Logs.filled(8, 2, KEY, count);
            for (int pos = log.writer(SealedAuditLog.W_END); pos < 64; pos++) {
                Logs.plant(log, pos, 0xEE);
            }
            accepted(checks, "other bytes after wEnd", log);
        }
        SealedAuditLog log = Logs.filled(8, 2, KEY, 4);
        log.tamper(40, 0);
        verified(checks, "bad last record", log, 5, SealedAuditLog.R_KIND);
        log.dropRecord(5);
        accepted(checks, "last record dropped", log);
    }

    private static void readsNothingElse(Checks checks) {
        checks.says("It never reads or changes the header, wTag, wSlot, wEpoch or budget");
        // Dropped records leave wTag, wSlot, wEpoch and the header as they were.
        SealedAuditLog log = Logs.filled(8, 2, KEY, 4);
        for (int left = 5; left >= 0; left--) {
            log.dropRecord(left);
            log.armCrash(left % 2);
            accepted(checks, left + " records left", log);
        }
        SealedAuditLog other = Logs.filled(8, 2, KEY, 4);
        other.dropRecord(5);
        other.append(9, 9);
        verified(checks, "data where a checkpoint is due", other, 5, SealedAuditLog.R_ORDER);
    }

    private static void changesOnlyTheReason(Checks checks) {
        checks.says("The only state verify changes is reason.");
        Map<String, SealedAuditLog> logs = Logs.inEveryState(8, 2, KEY);
        for (int budget : new int[] {-1, 0, 5}) {
            logs.forEach((state, log) -> {
                log.armCrash(budget);
                Map<String, Integer> before = State.of(log);
                log.verify();
                checks.onlyChanged("verify(), " + state, before, log, "reason");
            });
        }
    }

    private static void reasonIsSetAnew(Checks checks) {
        checks.says("Otherwise reason = R_NONE", "an accept clears the last reason");
        SealedAuditLog log = Logs.filled(8, 2, KEY, 1);
        log.tamper(1, 9);
        verified(checks, "bad", log, 0, SealedAuditLog.R_SEQ);
        log.tamper(1, 0);
        checks.due("reason before the next verify()", log.verifyReason(), SealedAuditLog.R_SEQ);
        accepted(checks, "put back", log);
    }

    private static void reasonInAnyState(Checks checks) {
        checks.says("verifyReason() answers reason as left by the last verify that was not refused .. It "
            + "changes nothing and works in any state.");
        Logs.inEveryState(8, 2, KEY).forEach((state, log) -> {
            int due = state.equals("bad") ? SealedAuditLog.R_KIND
                : state.equals("bad and crashed") ? SealedAuditLog.R_SEQ : SealedAuditLog.R_NONE;
            checks.inert("verifyReason(), " + state, log, log::verifyReason, due);
            log.crash();
            log.verify();
            checks.inert("verifyReason() after a refused verify(), " + state, log, log::verifyReason, due);
        });
    }

    private static void noReasonYet(Checks checks) {
        checks.says("R_NONE if there was none");
        SealedAuditLog log = new SealedAuditLog(8, 2);
        checks.due("new", log.verifyReason(), SealedAuditLog.R_NONE);
        log.verify();
        checks.due("verify() refused before start", log.verifyReason(), SealedAuditLog.R_NONE);
        log.start(KEY);
        log.append(1, 1);
        log.tamper(0, 0);
        checks.due("bad record, not verified yet", log.verifyReason(), SealedAuditLog.R_NONE);
        log.crash();
        log.verify();
        checks.due("verify() refused while crashed", log.verifyReason(), SealedAuditLog.R_NONE);
    }
}
