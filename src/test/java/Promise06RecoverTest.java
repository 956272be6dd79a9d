import java.util.Map;

/** Promise 6: recover keeps what it can check, zeroes the rest, and closes a full epoch. */
public final class Promise06RecoverTest {
    private static final int KEY = 4711;

    public static void main(String[] args) {
        Checks checks = new Checks();
        refusals(checks);
        nothingToLose(checks);
        for (int steps = 0; steps <= 16; steps++) {
            afterCrashBeforeStep(checks, steps);
        }
        checkpointJustFits(checks);
        tornTail(checks);
        damagedRecords(checks);
        forgedRecords(checks);
        beforeTheHeaderNothingIsRead(checks);
        droppedBehindTheHeader(checks);
        for (int epoch : new int[] {0, 255, 256, 65535, 65536}) {
            severalEpochsStored(checks, epoch);
        }
        wrongCheckpoints(checks);
        noRoomForTheCheckpoint(checks);
        leavesTheReason(checks);
        checks.end();
    }

    private static void refusals(Checks checks) {
        SealedAuditLog[] logs = {new SealedAuditLog(8, 2), Logs.started(8, 2, KEY), Logs.filled(8, 2, KEY, 3)};
        for (SealedAuditLog log : logs) {
            log.armCrash(7);
            Map<String, Integer> before = State.of(log);
            checks.due("recover()", log.recover(), SealedAuditLog.ERR_NOT_CRASHED);
            checks.unchanged("refused recover()", before, log);
        }
    }

    /** Between calls, a crash takes nothing that recover does not bring back. */
    private static void nothingToLose(Checks checks) {
        for (int length = 2; length <= 8; length++) {
            for (int count = 0; count <= 31; count++) {
                SealedAuditLog log = Logs.filled(32, length, KEY, count);
                Map<String, Integer> before = State.of(log);
                log.crash();
                log.armCrash(0);
                checks.due("recover()", log.recover(), before.get("wEnd") / 8);
                checks.unchanged("crash() and recover()", before, log);
            }
        }
    }

    private static void afterCrashBeforeStep(Checks checks, int steps) {
        String call = "recover after " + steps + " steps";
        SealedAuditLog log = Logs.filled(8, 2, KEY, 3);
        SealedAuditLog whole = Logs.filled(8, 2, KEY, 4);
        Map<String, Integer> due = State.of(steps < 8 ? log : whole);
        log.armCrash(steps);
        log.append(4, 1004);
        log.armCrash(3);
        checks.due(call, log.recover(), steps < 8 ? 4 : 6);
        checks.unchanged(call, due, log);
        checks.due(call + ": verify", log.verify(), SealedAuditLog.V_ACCEPT);
    }

    private static void checkpointJustFits(Checks checks) {
        Map<String, Integer> due = State.of(Logs.filled(6, 2, KEY, 4));
        for (int steps = 8; steps <= 16; steps++) {
            SealedAuditLog log = Logs.filled(6, 2, KEY, 3);
            log.armCrash(steps);
            log.append(4, 1004);
            checks.due("recover at the log's end", log.recover(), 6);
            checks.unchanged("recover at the log's end", due, log);
        }
    }

    private static void tornTail(Checks checks) {
        // The torn record is the log's last: every byte up to the end is zeroed.
        SealedAuditLog log = Logs.filled(4, 3, KEY, 2);
        log.armCrash(7);
        log.append(200, 0xFFFF);
        checks.bytes("torn", log, 17, 2, 255, 255);
        checks.due("recover", log.recover(), 2);
        for (int pos = 16; pos < 32; pos++) {
            checks.due("zeroed byte " + pos, log.storedByte(pos), 0);
        }
        checks.due("append again", log.append(200, 0xFFFF), 2);
        checks.due("verify", log.verify(), SealedAuditLog.V_ACCEPT);
    }

    /** One changed byte after hEnd ends what is kept, and all behind it is zeroed. */
    private static void damagedRecords(Checks checks) {
        for (int pos = 32; pos < 48; pos++) {
            SealedAuditLog log = Logs.filled(12, 3, KEY, 5);
            checks.header("filled", log, 32, Model.ratchet(KEY), Logs.storedTag(log, 3), 1);
            int kept = pos / 8;
            int tag = Logs.storedTag(log, kept - 1);
            Map<String, Integer> before = State.of(log);
            log.tamper(pos, log.storedByte(pos) ^ 0x10);
            log.crash();
            checks.due("recover, byte " + pos + " changed", log.recover(), kept);
            checks.writer("byte " + pos + " changed", log, 8 * kept, tag, kept - 4, 1);
            checks.header("byte " + pos + " changed", log, 32, before.get("hKey"), before.get("hTag"), 1);
            for (int q = 0; q < 96; q++) {
                checks.due("byte " + q, log.storedByte(q), q < 8 * kept ? before.get("byte " + q) : 0);
            }
        }
    }

    /** Records with a right tag, but wrong in kind, order or sequence. */
    private static void forgedRecords(Checks checks) {
        int key = Model.ratchet(KEY);
        int[][] forged = {{0, 3, 3}, {255, 3, 3}, {9, 2, 3}, {9, 4, 3}, {9, 3, 4}, {254, 3, 4}, {1, 3, 4}};
        for (int[] row : forged) {
            SealedAuditLog log = Logs.filled(8, 2, KEY, 3);
            int prev = Logs.storedTag(log, 2);
            Logs.tamper(log, 3, Logs.record(key, prev, row[0], row[1], 1));
            log.crash();
            checks.due("recover with " + row[0] + ", " + row[1], log.recover(), row[2]);
            checks.due("wSlot", log.writer(SealedAuditLog.W_SLOT), row[2] - 3);
        }
        // Sealed with the epoch's old key: not accepted.
        SealedAuditLog log = Logs.filled(8, 2, KEY, 3);
        Logs.tamper(log, 3, Logs.record(KEY, Logs.storedTag(log, 2), 9, 3, 1));
        log.crash();
        checks.due("recover with the old key", log.recover(), 3);
    }

    private static void beforeTheHeaderNothingIsRead(Checks checks) {
        SealedAuditLog log = Logs.filled(8, 2, KEY, 3);
        for (int pos = 0; pos < 24; pos++) {
            log.tamper(pos, 0xEE);
        }
        Map<String, Integer> before = State.of(log);
        log.crash();
        checks.due("recover", log.recover(), 4);
        checks.unchanged("crash and recover", before, log);
    }

    private static void droppedBehindTheHeader(Checks checks) {
        SealedAuditLog log = Logs.filled(8, 2, KEY, 3);
        log.dropRecord(0);
        log.dropRecord(0);
        checks.due("wEnd", log.writer(SealedAuditLog.W_END), 16);
        log.crash();
        checks.due("recover", log.recover(), 3);
        checks.writer("from the header alone", log, 24, log.header(SealedAuditLog.H_TAG), 0, 1);
        checks.bytes("old bytes stay", log, 8, 3, 3);
        checks.bytes("dropped bytes stay zero", log, 16, 0, 0, 0, 0, 0, 0, 0, 0);
    }

    /** recover goes on over several checkpoints, each with the next key and epoch number. */
    private static void severalEpochsStored(Checks checks, int epoch) {
        SealedAuditLog whole = inEpoch(epoch);
        SealedAuditLog log = inEpoch(epoch);
        int first = log.header(SealedAuditLog.H_END) / 8;
        for (int n = 1; n <= 7; n++) {
            whole.append(n, n);
        }
        log.crash();
        for (int i = first; i < first + 10; i++) {
            Logs.plant(log, i, stored(whole, i));
        }
        checks.due("recover", log.recover(), first + 10);
        checks.unchanged("recover over three epochs", State.of(whole), log);
    }

    /** A log that begins this epoch; earlier records are dropped to make room. */
    private static SealedAuditLog inEpoch(int epoch) {
        SealedAuditLog log = Logs.started(16, 2, KEY);
        for (int e = 0; e < epoch; e++) {
            log.dropRecord(0);
            log.dropRecord(0);
            log.dropRecord(0);
            log.append(1, 1);
            log.append(2, 2);
        }
        return log;
    }

    private static int[] stored(SealedAuditLog log, int index) {
        int[] record = new int[8];
        for (int k = 0; k < 8; k++) {
            record[k] = log.storedByte(8 * index + k);
        }
        return record;
    }

    /** At the place of a checkpoint: right tags, but no checkpoint of this epoch. */
    private static void wrongCheckpoints(Checks checks) {
        int[][] planted = {{255, 2, 1}, {255, 2, 256}, {255, 3, 0}, {254, 2, 0}, {0, 2, 0}};
        for (int[] row : planted) {
            SealedAuditLog whole = Logs.filled(8, 2, KEY, 2);
            Map<String, Integer> due = State.of(whole);
            SealedAuditLog log = Logs.crashed(8, 2, KEY, 0);
            Logs.plant(log, 0, stored(whole, 0));
            Logs.plant(log, 1, stored(whole, 1));
            Logs.plant(log, 2, Logs.record(KEY, Logs.storedTag(whole, 1), row[0], row[1], row[2]));
            Logs.plant(log, 3, Logs.record(KEY, Logs.storedTag(log, 2), 9, 3, 9));
            checks.due("recover with " + row[0] + ", " + row[1] + ", " + row[2], log.recover(), 3);
            checks.unchanged("the checkpoint is written anew", due, log);
        }
    }

    private static void noRoomForTheCheckpoint(Checks checks) {
        SealedAuditLog log = Logs.crashed(4, 4, KEY, 0);
        int prev = 0;
        for (int i = 0; i < 4; i++) {
            int[] record = Logs.record(KEY, prev, 9, i, i);
            Logs.plant(log, i, record);
            prev = Logs.tagOf(record);
        }
        checks.due("recover", log.recover(), 4);
        checks.writer("no room", log, 32, prev, 4, 0);
        checks.header("no room", log, 0, KEY, 0, 0);
        checks.due("verify", log.verify(), SealedAuditLog.V_ACCEPT);
        checks.due("append", log.append(1, 1), SealedAuditLog.ERR_FULL);
        checks.due("append of a wrong kind", log.append(0, 1), SealedAuditLog.ERR_KIND);
        log.dropRecord(0);
        log.dropRecord(0);
        log.dropRecord(0);
        checks.due("append with room, but the epoch full", log.append(1, 1), SealedAuditLog.ERR_FULL);
    }

    private static void leavesTheReason(Checks checks) {
        SealedAuditLog log = Logs.filled(8, 2, KEY, 3);
        log.tamper(0, 0);
        log.verify();
        log.crash();
        log.recover();
        checks.due("reason", log.verifyReason(), SealedAuditLog.R_KIND);
    }
}
