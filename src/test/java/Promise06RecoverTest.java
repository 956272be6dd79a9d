import java.util.Map;

/** Promise 6: recover keeps what it can check, zeroes the rest, and closes a full epoch. */
public final class Promise06RecoverTest {
    private static final int KEY = 4711;

    public static void main(String[] args) {
        Checks checks = new Checks();
        refusedIfNotCrashed(checks);
        disarms(checks);
        emptyLog(checks);
        headerAtTheEnd(checks);
        lastRecordOfTheLog(checks);
        kindZero(checks);
        zeroRecordWithARightTag(checks);
        checkpointTooEarly(checks);
        checkpointMissing(checks);
        wrongSequence(checks);
        wrongEpochNumber(checks);
        epochNumberWraps(checks);
        wrongTag(checks);
        oldKeyAndNextKey(checks);
        loopEnds(checks);
        rightRecords(checks);
        acceptedCheckpoint(checks);
        severalEpochsStored(checks);
        zeroesToTheEnd(checks);
        stateAfterIt(checks);
        writesTheCheckpoint(checks);
        checkpointJustFits(checks);
        answers(checks);
        beforeTheHeader(checks);
        fromTheHeaderAlone(checks);
        droppedBehindTheHeader(checks);
        checkpointBehindTheHeader(checks);
        noRoomForTheCheckpoint(checks);
        leavesTheRest(checks);
        nothingToLose(checks);
        checks.end();
    }

    private static void refusedIfNotCrashed(Checks checks) {
        checks.says("refused (ERR_NOT_CRASHED, nothing changes) if not crashed");
        Logs.inEveryState(8, 2, KEY).forEach((state, log) -> {
            log.recover();
            checks.refused("recover(), " + state, log, log::recover, SealedAuditLog.ERR_NOT_CRASHED);
        });
        SealedAuditLog fresh = new SealedAuditLog(8, 2);
        fresh.crash();
        checks.refused("recover() before start", fresh, fresh::recover, SealedAuditLog.ERR_NOT_CRASHED);
    }

    private static void disarms(Checks checks) {
        checks.says("1. budget = -1");
        for (int budget : new int[] {-1, 0, 1, 9, Integer.MAX_VALUE}) {
            SealedAuditLog log = Logs.crashed(8, 2, KEY, 3);
            log.armCrash(budget);
            checks.due("recover()", log.recover(), 4);
            checks.mode("recover() with budget " + budget, log, -1, false);
        }
    }

    private static void emptyLog(Checks checks) {
        checks.says("p = hEnd, K = hKey, prev = hTag, e = hEpoch, s = 0", "an empty log");
        for (int key : new int[] {0, 1, KEY, Integer.MIN_VALUE}) {
            SealedAuditLog log = Logs.crashed(8, 2, key, 0);
            checks.due("recover()", log.recover(), 0);
            checks.unchanged("recover()", State.of(Logs.started(8, 2, key)), log);
        }
    }

    /** A crash, and recover brings everything back. */
    private static void broughtBack(Checks checks, SealedAuditLog log) {
        Map<String, Integer> before = State.of(log);
        log.crash();
        checks.due("recover()", log.recover(), before.get("wEnd") / 8);
        checks.unchanged("crash() and recover()", before, log);
    }

    private static void headerAtTheEnd(Checks checks) {
        checks.says("2. While p + 8 <= C", "p = C: no record is read");
        for (int records : new int[] {6, 9, 30}) {
            SealedAuditLog log = Logs.filled(records, 2, KEY, 20);
            checks.due("hEnd", log.header(SealedAuditLog.H_END), 8 * records);
            broughtBack(checks, log);
        }
    }

    private static void lastRecordOfTheLog(Checks checks) {
        checks.says("2. While p + 8 <= C", "p + 8 = C: the last record is read");
        for (int records : new int[] {4, 10, 31}) {
            SealedAuditLog log = Logs.filled(records, 2, KEY, 21);
            checks.due("wEnd", log.writer(SealedAuditLog.W_END), 8 * records);
            broughtBack(checks, log);
        }
        // A record that lies wholly outside a small log is no record of it.
        SealedAuditLog log = Logs.crashed(4, 8, KEY, 4);
        Logs.plant(log, 4, Logs.record(KEY, Logs.storedTag(log, 3), 9, 4, 9));
        checks.due("recover()", log.recover(), 4);
    }

    /** Record 3, the one after hEnd, is forged with a tag that is right for the given key. */
    private static void forged(Checks checks, int key, int kind, int sequence, int due) {
        SealedAuditLog log = Logs.filled(8, 2, KEY, 3);
        int prev = Logs.storedTag(log, 2);
        int[] record = Logs.record(key, prev, kind, sequence, 1);
        Logs.tamper(log, 3, record);
        log.crash();
        String call = "recover() with kind " + kind + ", sequence " + sequence;
        checks.due(call, log.recover(), due);
        checks.writer(call, log, 8 * due, due == 3 ? prev : Logs.tagOf(record), due - 3, 1);
        checks.zeros(call, log, 8 * due, 64);
    }

    private static void kindZero(Checks checks) {
        checks.says("b0 != 0");
        forged(checks, Model.ratchet(KEY), 0, 3, 3);
    }

    private static void zeroRecordWithARightTag(Checks checks) {
        checks.says("b0 != 0", "with key 0, eight zero bytes have the right tag");
        SealedAuditLog log = Logs.crashed(8, 2, 0, 0);
        checks.due("recover()", log.recover(), 0);
        checks.writer("recover()", log, 0, 0, 0, 0);
        SealedAuditLog whole = Logs.filled(8, 2, 0, 2);
        SealedAuditLog behind = Logs.crashed(8, 2, 0, 0);
        Logs.plant(behind, 1, Logs.stored(whole, 1));
        checks.due("recover() before a record that is right", behind.recover(), 0);
        checks.zeros("recover()", behind, 0, 64);
    }

    private static void checkpointTooEarly(Checks checks) {
        checks.says("(b0 == 255) equals (s == E)", "a checkpoint before the epoch is full");
        forged(checks, Model.ratchet(KEY), 255, 3, 3);
        for (int length = 2; length <= 8; length++) {
            for (int slot = 0; slot < length; slot++) {
                SealedAuditLog log = Logs.crashed(16, length, KEY, slot);
                int prev = slot == 0 ? 0 : Logs.storedTag(log, slot - 1);
                Logs.plant(log, slot, Logs.record(KEY, prev, 255, slot, 0));
                checks.due("E = " + length + ", checkpoint at " + slot, log.recover(), slot);
                checks.header("a checkpoint too early", log, 0, KEY, 0, 0);
            }
        }
    }

    /** After a full epoch of 2 a record with a right tag stands; recover writes the checkpoint over it. */
    private static void notTheCheckpoint(Checks checks, int kind, int sequence, int payload) {
        SealedAuditLog whole = Logs.filled(8, 2, KEY, 2);
        SealedAuditLog log = Logs.torn(8, 2, KEY, 1, 8);
        Logs.plant(log, 2, Logs.record(KEY, Logs.storedTag(whole, 1), kind, sequence, payload));
        Logs.plant(log, 3, Logs.record(KEY, Logs.storedTag(log, 2), 9, 3, 9));
        String call = "recover() with kind " + kind + ", sequence " + sequence + ", payload " + payload;
        checks.due(call, log.recover(), 3);
        checks.unchanged(call, State.of(whole), log);
    }

    private static void checkpointMissing(Checks checks) {
        checks.says("(b0 == 255) equals (s == E)", "a data record where the checkpoint is due");
        notTheCheckpoint(checks, 254, 2, 0);
        notTheCheckpoint(checks, 1, 2, 0);
        notTheCheckpoint(checks, 0, 2, 0);
    }

    private static void wrongSequence(Checks checks) {
        checks.says("b1 == (p / 8) & 0xFF");
        for (int sequence : new int[] {0, 2, 4, 35, 131, 255}) {
            forged(checks, Model.ratchet(KEY), 9, sequence, 3);
        }
        notTheCheckpoint(checks, 255, 3, 0);
        notTheCheckpoint(checks, 255, 0, 0);
    }

    private static void wrongEpochNumber(Checks checks) {
        checks.says("if b0 == 255 then b2 * 256 + b3 == e & 0xFFFF");
        for (int payload : new int[] {1, 2, 255, 256, 65535}) {
            notTheCheckpoint(checks, 255, 2, payload);
        }
    }

    private static void epochNumberWraps(Checks checks) {
        checks.says("b2 * 256 + b3 == e & 0xFFFF", "e of 255, 256, 65535 and more");
        for (int epoch : new int[] {255, 256, 65535, 65536, 65537}) {
            SealedAuditLog whole = Logs.inEpoch(8, epoch);
            SealedAuditLog log = Logs.inEpoch(8, epoch);
            whole.append(1, 1);
            whole.append(2, 2);
            log.append(1, 1);
            log.armCrash(16);
            log.append(2, 2);
            checks.due("recover() in epoch " + epoch, log.recover(), whole.writer(SealedAuditLog.W_END) / 8);
            checks.unchanged("recover() that accepts checkpoint " + epoch, State.of(whole), log);
            SealedAuditLog torn = Logs.inEpoch(8, epoch);
            torn.append(1, 1);
            torn.armCrash(8);
            torn.append(2, 2);
            torn.recover();
            checks.unchanged("recover() that writes checkpoint " + epoch, State.of(whole), torn);
        }
    }

    private static void wrongTag(Checks checks) {
        checks.says("the stored tag equals tag(K, prev, b0, b1, b2, b3)");
        for (int pos = 32; pos < 48; pos++) {
            for (int bit = 0; bit < 8; bit++) {
                SealedAuditLog log = Logs.filled(12, 3, KEY, 5);
                int kept = pos / 8;
                Map<String, Integer> before = State.of(log);
                log.tamper(pos, log.storedByte(pos) ^ 1 << bit);
                log.crash();
                String call = "bit " + bit + " of byte " + pos + " changed";
                checks.due(call + ": recover()", log.recover(), kept);
                checks.writer(call, log, 8 * kept, Logs.storedTag(log, kept - 1), kept - 4, 1);
                checks.onlyChanged(call, before, log, Logs.bytesAnd(8 * kept, 96, "wEnd", "wTag", "wSlot"));
                checks.zeros(call, log, 8 * kept, 96);
            }
        }
    }

    private static void oldKeyAndNextKey(Checks checks) {
        checks.says("K = hKey", "not an older or a later key");
        int key = Model.ratchet(KEY);
        forged(checks, KEY, 9, 3, 3);
        forged(checks, Model.ratchet(key), 9, 3, 3);
        forged(checks, key, 9, 3, 4);
    }

    private static void loopEnds(Checks checks) {
        checks.says("If not accepted, the loop ends.", "right records after a wrong one are zeroed");
        SealedAuditLog log = Logs.crashed(8, 4, KEY, 1);
        int[] wrong = Logs.record(KEY, Logs.storedTag(log, 0), 9, 7, 9);
        int[] right = Logs.record(KEY, Logs.tagOf(wrong), 9, 2, 9);
        int[] rightToo = Logs.record(KEY, Logs.storedTag(log, 0), 9, 3, 9);
        Logs.plant(log, 1, wrong);
        Logs.plant(log, 2, right);
        Logs.plant(log, 3, rightToo);
        checks.due("recover()", log.recover(), 1);
        checks.unchanged("recover()", State.of(Logs.filled(8, 4, KEY, 1)), log);
    }

    private static void rightRecords(Checks checks) {
        checks.says("The record is accepted when all of these hold", "kinds 1 and 254, the edges");
        forged(checks, Model.ratchet(KEY), 1, 3, 4);
        forged(checks, Model.ratchet(KEY), 254, 3, 4);
    }

    private static void acceptedCheckpoint(Checks checks) {
        checks.says("if b0 == 255 the header is replaced (hEnd = p + 8, hTag = prev, hKey = ratchet(K), hEpoch "
            + "= e + 1), then K = hKey, e = e + 1, s = 0");
        SealedAuditLog log = Logs.torn(8, 2, KEY, 3, 16);
        checks.due("hEpoch before", log.header(SealedAuditLog.H_EPOCH), 1);
        checks.due("recover()", log.recover(), 6);
        int tag = Logs.storedTag(log, 5);
        checks.header("recover()", log, 48, Model.ratchet(Model.ratchet(KEY)), tag, 2);
        checks.writer("recover()", log, 48, tag, 0, 2);
        checks.due("append after it", log.append(9, 9), 6);
        checks.due("verify()", log.verify(), SealedAuditLog.V_ACCEPT);
    }

    private static void severalEpochsStored(Checks checks) {
        checks.says("If accepted .. then p = p + 8", "over several checkpoints");
        for (int epoch : new int[] {0, 255, 65535}) {
            SealedAuditLog whole = Logs.inEpoch(16, epoch);
            SealedAuditLog log = Logs.inEpoch(16, epoch);
            int first = log.header(SealedAuditLog.H_END) / 8;
            for (int n = 1; n <= 7; n++) {
                whole.append(n, n);
            }
            log.crash();
            for (int i = first; i < first + 10; i++) {
                Logs.plant(log, i, Logs.stored(whole, i));
            }
            checks.due("recover()", log.recover(), first + 10);
            checks.unchanged("recover() over three epochs", State.of(whole), log);
        }
    }

    private static void zeroesToTheEnd(Checks checks) {
        checks.says("3. After the loop every log byte at offsets p..C-1 is set to 0");
        for (int records : new int[] {4, 7, 32}) {
            SealedAuditLog log = Logs.crashed(records, 3, KEY, 2);
            for (int pos = 16; pos < 8 * records; pos++) {
                Logs.plant(log, pos, 0xEE);
            }
            checks.due("recover()", log.recover(), 2);
            checks.unchanged("recover()", State.of(Logs.filled(records, 3, KEY, 2)), log);
        }
        SealedAuditLog torn = Logs.filled(4, 5, KEY, 3);
        torn.armCrash(7);
        torn.append(200, 0xFFFF);
        checks.bytes("a torn last record", torn, 24, 0, 3, 255, 255);
        checks.due("recover()", torn.recover(), 3);
        checks.zeros("recover()", torn, 24, 32);
        checks.due("append again", torn.append(200, 0xFFFF), 3);
        checks.due("verify()", torn.verify(), SealedAuditLog.V_ACCEPT);
    }

    private static void stateAfterIt(Checks checks) {
        checks.says("crashed = false; wEnd = p, wTag = prev, wSlot = s, wEpoch = e");
        for (int steps = 0; steps < 8; steps++) {
            SealedAuditLog log = Logs.torn(8, 2, KEY, 3, steps);
            checks.due("recover() after " + steps + " steps", log.recover(), 4);
            checks.unchanged("recover() after " + steps + " steps", State.of(Logs.filled(8, 2, KEY, 3)), log);
            checks.due("verify()", log.verify(), SealedAuditLog.V_ACCEPT);
            checks.due("append", log.append(1, 1), 4);
        }
    }

    private static void writesTheCheckpoint(Checks checks) {
        checks.says("4. Then, if wSlot == E and wEnd + 8 <= C, checkpoint completion is done (its steps never "
            + "crash and do not touch budget)");
        for (int steps = 8; steps <= 16; steps++) {
            for (int length = 2; length <= 8; length++) {
                SealedAuditLog log = Logs.torn(32, length, KEY, 2 * length - 1, steps);
                log.armCrash(steps - 8);
                String call = "recover() after " + steps + " steps, E = " + length;
                checks.due(call, log.recover(), 2 * length + 2);
                checks.unchanged(call, State.of(Logs.filled(32, length, KEY, 2 * length)), log);
                checks.due("verify()", log.verify(), SealedAuditLog.V_ACCEPT);
            }
        }
    }

    private static void checkpointJustFits(Checks checks) {
        checks.says("if wSlot == E and wEnd + 8 <= C", "wEnd + 8 = C");
        for (int steps = 8; steps <= 16; steps++) {
            SealedAuditLog log = Logs.torn(6, 2, KEY, 3, steps);
            checks.due("recover() at the log's end", log.recover(), 6);
            checks.unchanged("recover() at the log's end", State.of(Logs.filled(6, 2, KEY, 4)), log);
        }
    }

    private static void answers(Checks checks) {
        checks.says("5. Answer wEnd / 8, with wEnd as it stands after step 4");
        checks.due("of an empty log", Logs.crashed(8, 2, KEY, 0).recover(), 0);
        checks.due("of a torn first record", Logs.torn(8, 2, KEY, 0, 7).recover(), 0);
        checks.due("of one record", Logs.crashed(8, 2, KEY, 1).recover(), 1);
        checks.due("with a checkpoint that it writes", Logs.torn(8, 2, KEY, 1, 8).recover(), 3);
        checks.due("with a checkpoint that it accepts", Logs.torn(8, 2, KEY, 1, 16).recover(), 3);
    }

    private static void beforeTheHeader(Checks checks) {
        checks.says("Bytes before the starting hEnd are neither read nor changed");
        SealedAuditLog log = Logs.filled(8, 2, KEY, 3);
        for (int pos = 0; pos < 24; pos++) {
            log.tamper(pos, 0xEE);
        }
        broughtBack(checks, log);
    }

    private static void fromTheHeaderAlone(Checks checks) {
        checks.says("If no record after hEnd is accepted, the writer state comes from the header alone");
        SealedAuditLog log = Logs.filled(8, 3, KEY, 5);
        log.tamper(32, 0);
        log.crash();
        checks.due("recover()", log.recover(), 4);
        checks.writer("recover()", log, 32, log.header(SealedAuditLog.H_TAG), 0, 1);
        checks.zeros("recover()", log, 32, 64);
    }

    private static void droppedBehindTheHeader(Checks checks) {
        checks.says("the writer state comes from the header alone", "drops had brought wEnd below hEnd");
        SealedAuditLog log = Logs.filled(8, 2, KEY, 3);
        log.dropRecord(0);
        log.dropRecord(0);
        checks.due("wEnd", log.writer(SealedAuditLog.W_END), 16);
        log.armCrash(5);
        checks.due("append", log.append(0xAB, 0xCDEF), SealedAuditLog.ERR_LOST);
        checks.due("recover()", log.recover(), 3);
        checks.writer("recover()", log, 24, log.header(SealedAuditLog.H_TAG), 0, 1);
        checks.bytes("old bytes stay", log, 8, 3, 3);
        checks.bytes("torn bytes before hEnd stay", log, 16, 0, 2, 0xCD, 0xEF);
    }

    private static void checkpointBehindTheHeader(Checks checks) {
        checks.says("(b0 == 255) equals (s == E)", "a checkpoint that a drop has brought to hEnd");
        SealedAuditLog log = Logs.filled(8, 2, KEY, 3);
        Map<String, Integer> before = State.of(log);
        log.dropRecord(0);
        log.dropRecord(0);
        log.armCrash(16);
        checks.due("append", log.append(9, 9), 2);
        checks.bytes("the checkpoint lies at hEnd", log, 24, 255, 3, 0, 1);
        checks.due("recover()", log.recover(), 3);
        checks.header("recover()", log, 24, before.get("hKey"), before.get("hTag"), 1);
        checks.zeros("recover()", log, 24, 64);
        checks.bytes("the data record before it stays", log, 16, 9, 2, 0, 9);
    }

    private static void noRoomForTheCheckpoint(Checks checks) {
        checks.says("If wSlot == E but there is no room for the checkpoint (wEnd + 8 > C), no completion is "
            + "done and wSlot stays E, so, while wSlot stays E, any later append that passes tests 1-4 of "
            + "Promise 3 answers ERR_FULL");
        for (int records = 4; records <= 8; records++) {
            SealedAuditLog log = Logs.epochWithoutCheckpoint(records, KEY);
            checks.writer("no room", log, 8 * records, Logs.storedTag(log, records - 1), records, 0);
            checks.header("no room", log, 0, KEY, 0, 0);
            checks.mode("no room", log, -1, false);
            checks.due("verify()", log.verify(), SealedAuditLog.V_ACCEPT);
            checks.refused("append", log, () -> log.append(1, 1), SealedAuditLog.ERR_FULL);
            checks.refused("append of a wrong kind", log, () -> log.append(0, 1), SealedAuditLog.ERR_KIND);
            checks.refused("append of a wrong payload", log, () -> log.append(1, -1), SealedAuditLog.ERR_PAYLOAD);
            log.crash();
            checks.due("recover() again", log.recover(), records);
            checks.due("wSlot", log.writer(SealedAuditLog.W_SLOT), records);
            log.dropRecord(0);
            log.dropRecord(0);
            checks.refused("append after drops", log, () -> log.append(1, 1), SealedAuditLog.ERR_FULL);
            log.crash();
            log.recover();
            checks.due("wSlot is no more E", log.writer(SealedAuditLog.W_SLOT), 0);
            checks.due("append", log.append(1, 1), 0);
        }
    }

    private static void leavesTheRest(Checks checks) {
        checks.says("Not changed by recover: started, vKey, reason, R, E");
        SealedAuditLog log = Logs.filled(8, 2, KEY, 3);
        log.tamper(0, 0);
        log.verify();
        log.armCrash(12);
        log.append(4, 4);
        log.recover();
        checks.due("reason", log.verifyReason(), SealedAuditLog.R_KIND);
        checks.due("started", log.writer(SealedAuditLog.W_STARTED), 1);
        checks.due("C", log.writer(SealedAuditLog.W_CAPACITY), 64);
        checks.due("E", log.writer(SealedAuditLog.W_EPOCH_LENGTH), 2);
        log.tamper(0, 1);
        checks.due("vKey: verify()", log.verify(), SealedAuditLog.V_ACCEPT);
    }

    private static void nothingToLose(Checks checks) {
        checks.says("recover starts from the header, re-checks the records written after it with the header key",
            "between calls, a crash takes nothing that recover does not bring back");
        for (int length = 2; length <= 8; length++) {
            for (int count = 0; count <= 31; count++) {
                SealedAuditLog log = Logs.filled(32, length, KEY, count);
                broughtBack(checks, log);
                broughtBack(checks, log);
            }
        }
    }
}
