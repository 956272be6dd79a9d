import java.util.Map;

/** Promise 3: append's refusals in order, its records, checkpoints, and a crash before each step. */
public final class Promise03AppendTest {
    /** Steps of an append that fills an epoch. */
    private static final int STEPS = 17;
    /** The places within a record in the order in which they are written. */
    private static final int[] ORDER = {1, 2, 3, 4, 5, 6, 7, 0};
    private static final int[] WRONG_KINDS = {0, 255, 256, 257, 510, -1, -254, Integer.MIN_VALUE, Integer.MAX_VALUE};
    private static final int[] WRONG_PAYLOADS = {-1, 65536, 65537, -65535, Integer.MIN_VALUE, Integer.MAX_VALUE};

    public static void main(String[] args) {
        Checks checks = new Checks();
        notStarted(checks);
        crashed(checks);
        wrongKinds(checks);
        rightKinds(checks);
        wrongPayloads(checks);
        rightPayloads(checks);
        testsInOrder(checks);
        refusalsLeaveNoTrace(checks);
        fullByOneRecord(checks);
        fullByTheCheckpoint(checks);
        roomForBoth(checks);
        fullEpoch(checks);
        fullForAllSizes(checks);
        roomAgainAfterADrop(checks);
        indexes(checks);
        closesTheEpoch(checks);
        doesNotCloseTheEpoch(checks);
        budgetCountsAcrossCalls(checks);
        budgetJustEnough(checks);
        lostInSteps1To8(checks);
        crashInSteps9To17(checks);
        withoutACrash(checks);
        behindTheHeader(checks);
        leavesTheRest(checks);
        checks.end();
    }

    private static void refused(Checks checks, String state, SealedAuditLog log, int kind, int payload, int due) {
        checks.refused("append(" + kind + ", " + payload + "), " + state, log, () -> log.append(kind, payload), due);
    }

    private static void notStarted(Checks checks) {
        checks.says("1. not started: ERR_NOT_STARTED");
        SealedAuditLog log = new SealedAuditLog(4, 2);
        refused(checks, "not started", log, 5, 5, SealedAuditLog.ERR_NOT_STARTED);
        log.crash();
        log.recover();
        refused(checks, "not started, after calls that were refused", log, 5, 5, SealedAuditLog.ERR_NOT_STARTED);
    }

    private static void crashed(Checks checks) {
        checks.says("2. crashed: ERR_CRASHED");
        refused(checks, "crashed", Logs.crashed(4, 2, 1, 1), 5, 5, SealedAuditLog.ERR_CRASHED);
        refused(checks, "crashed while empty", Logs.crashed(4, 2, 1, 0), 5, 5, SealedAuditLog.ERR_CRASHED);
        for (int steps = 0; steps < STEPS; steps++) {
            SealedAuditLog log = Logs.torn(8, 2, 1, 1, steps);
            refused(checks, "crashed after " + steps + " steps", log, 5, 5, SealedAuditLog.ERR_CRASHED);
        }
    }

    private static void wrongKinds(Checks checks) {
        checks.says("3. kind not in 1..254 (so 0, 255, negatives and values above 255): ERR_KIND");
        for (int kind : WRONG_KINDS) {
            refused(checks, "empty", Logs.started(4, 2, 1), kind, 5, SealedAuditLog.ERR_KIND);
            refused(checks, "mid-epoch", Logs.filled(4, 2, 1, 1), kind, 5, SealedAuditLog.ERR_KIND);
            refused(checks, "after a checkpoint", Logs.filled(4, 2, 1, 2), kind, 5, SealedAuditLog.ERR_KIND);
        }
    }

    private static void rightKinds(Checks checks) {
        checks.says("3. kind not in 1..254", "1 to 254 pass");
        for (int kind = 1; kind <= 254; kind++) {
            SealedAuditLog log = Logs.started(4, 2, 1);
            checks.due("append(" + kind + ", 5)", log.append(kind, 5), 0);
            checks.bytes("kind", log, 0, kind);
        }
    }

    private static void wrongPayloads(Checks checks) {
        checks.says("4. payload not in 0..65535: ERR_PAYLOAD");
        for (int payload : WRONG_PAYLOADS) {
            refused(checks, "empty", Logs.started(4, 2, 1), 1, payload, SealedAuditLog.ERR_PAYLOAD);
            refused(checks, "mid-epoch", Logs.filled(4, 2, 1, 1), 254, payload, SealedAuditLog.ERR_PAYLOAD);
            refused(checks, "after a checkpoint", Logs.filled(4, 2, 1, 2), 5, payload, SealedAuditLog.ERR_PAYLOAD);
        }
    }

    private static void rightPayloads(Checks checks) {
        checks.says("4. payload not in 0..65535", "0 and 65535 pass");
        for (int payload : new int[] {0, 1, 65534, 65535}) {
            SealedAuditLog log = Logs.started(4, 2, 1);
            checks.due("append(5, " + payload + ")", log.append(5, payload), 0);
            checks.bytes("payload", log, 2, payload >> 8, payload & 255);
        }
    }

    private static void testsInOrder(Checks checks) {
        checks.says("It tests in this order");
        for (int kind : WRONG_KINDS) {
            for (int payload : WRONG_PAYLOADS) {
                refused(checks, "new", new SealedAuditLog(4, 2), kind, payload, SealedAuditLog.ERR_NOT_STARTED);
                refused(checks, "crashed", Logs.crashed(4, 2, 1, 1), kind, payload, SealedAuditLog.ERR_CRASHED);
                refused(checks, "open", Logs.filled(4, 2, 1, 1), kind, payload, SealedAuditLog.ERR_KIND);
                refused(checks, "full", Logs.filled(4, 2, 1, 3), kind, payload, SealedAuditLog.ERR_KIND);
                refused(checks, "full", Logs.filled(4, 2, 1, 3), 5, payload, SealedAuditLog.ERR_PAYLOAD);
            }
        }
        refused(checks, "full and crashed", Logs.crashed(4, 2, 1, 3), 5, 5, SealedAuditLog.ERR_CRASHED);
    }

    private static void refusalsLeaveNoTrace(Checks checks) {
        checks.says("each refusal changes nothing at all (budget included)");
        SealedAuditLog plain = new SealedAuditLog(6, 2);
        SealedAuditLog log = new SealedAuditLog(6, 2);
        plain.armCrash(8 + 17 + 8 + 4);
        log.armCrash(8 + 17 + 8 + 4);
        log.append(1, 1);
        plain.start(9);
        log.start(9);
        for (int n = 1; n <= 4; n++) {
            log.append(255, n);
            log.append(n, 65536);
            plain.append(n, n);
            log.append(n, n);
            log.append(0, n);
            checks.unchanged("appends refused before and after append " + n, State.of(plain), log);
        }
        checks.mode("the last append crashes", log, -1, true);
        log.append(5, 5);
        checks.unchanged("append refused while crashed", State.of(plain), log);
    }

    private static void fullByOneRecord(Checks checks) {
        checks.says("else 8: if wSlot == E or wEnd + need > C: ERR_FULL", "need = 8");
        SealedAuditLog log = Logs.filled(4, 8, 7, 3);
        checks.due("the last record fits", log.append(1, 1), 3);
        refused(checks, "four of four records", log, 1, 1, SealedAuditLog.ERR_FULL);
        log = Logs.filled(5, 3, 7, 3);
        checks.due("the last record after a checkpoint fits", log.append(1, 1), 4);
        refused(checks, "five of five records", log, 1, 1, SealedAuditLog.ERR_FULL);
        refused(checks, "a checkpoint at the end", Logs.filled(4, 3, 7, 3), 1, 1, SealedAuditLog.ERR_FULL);
        log = Logs.filled(32, 8, 7, 28);
        checks.due("record 31", log.append(1, 1), 31);
        refused(checks, "32 of 32 records", log, 1, 1, SealedAuditLog.ERR_FULL);
    }

    private static void fullByTheCheckpoint(Checks checks) {
        checks.says("5. with need = 16 if wSlot + 1 >= E .. wEnd + need > C: ERR_FULL");
        refused(checks, "room for one", Logs.filled(5, 2, 7, 3), 1, 1, SealedAuditLog.ERR_FULL);
        refused(checks, "room for one of the first epoch", Logs.filled(4, 4, 7, 3), 1, 1, SealedAuditLog.ERR_FULL);
        refused(checks, "room for one of the longest epoch", Logs.filled(8, 8, 7, 7), 1, 1, SealedAuditLog.ERR_FULL);
        refused(checks, "room for none", Logs.filled(4, 2, 7, 3), 1, 1, SealedAuditLog.ERR_FULL);
    }

    private static void roomForBoth(Checks checks) {
        checks.says("5. with need = 16 if wSlot + 1 >= E", "wEnd + 16 = C passes");
        SealedAuditLog log = Logs.filled(6, 2, 7, 3);
        checks.due("the last two records", log.append(1, 1), 4);
        checks.header("the last two records", log, 48, Model.ratchet(Model.ratchet(7)), Logs.storedTag(log, 5), 2);
        refused(checks, "six of six records", log, 1, 1, SealedAuditLog.ERR_FULL);
        log = Logs.filled(9, 8, 7, 7);
        checks.due("the last two records", log.append(1, 1), 7);
        checks.due("wEnd", log.writer(SealedAuditLog.W_END), 72);
        refused(checks, "nine of nine records", log, 1, 1, SealedAuditLog.ERR_FULL);
    }

    private static void fullEpoch(Checks checks) {
        checks.says("if wSlot == E or .. ERR_FULL", "wSlot = E");
        SealedAuditLog log = Logs.epochWithoutCheckpoint(4, 7);
        refused(checks, "wSlot is E, no room", log, 1, 1, SealedAuditLog.ERR_FULL);
        for (int left = 3; left >= 0; left--) {
            log.dropRecord(0);
            checks.due("wEnd", log.writer(SealedAuditLog.W_END), 8 * left);
            refused(checks, "wSlot is E, with room", log, 1, 1, SealedAuditLog.ERR_FULL);
        }
    }

    private static void fullForAllSizes(Checks checks) {
        checks.says("if wSlot == E or wEnd + need > C: ERR_FULL", "every R and E");
        for (int records = 4; records <= 32; records++) {
            for (int length = 2; length <= 8; length++) {
                SealedAuditLog log = Logs.started(records, length, records * 31 + length);
                int i = 0;
                while (i < records && (i % (length + 1) != length - 1 || i + 1 < records)) {
                    checks.due("append at " + i, log.append(9, i), i);
                    i += i % (length + 1) == length - 1 ? 2 : 1;
                }
                refused(checks, "R = " + records + ", E = " + length, log, 9, 9, SealedAuditLog.ERR_FULL);
                checks.due("wEnd", log.writer(SealedAuditLog.W_END), 8 * i);
                checks.due("verify", log.verify(), SealedAuditLog.V_ACCEPT);
            }
        }
    }

    private static void roomAgainAfterADrop(Checks checks) {
        checks.says("wEnd + need > C: ERR_FULL", "wEnd as a drop has left it");
        SealedAuditLog log = Logs.filled(4, 8, 7, 4);
        log.dropRecord(0);
        checks.due("append in the room of a dropped record", log.append(1, 1), 3);
        refused(checks, "full again", log, 1, 1, SealedAuditLog.ERR_FULL);
        // The writer's slot stays 1 of 2, so the next record still needs room for two.
        SealedAuditLog two = Logs.filled(4, 2, 7, 3);
        two.dropRecord(0);
        refused(checks, "one of two records of room", two, 1, 1, SealedAuditLog.ERR_FULL);
        two.dropRecord(0);
        checks.due("append with room for two", two.append(1, 1), 2);
        checks.due("wEnd", two.writer(SealedAuditLog.W_END), 32);
    }

    private static void indexes(Checks checks) {
        checks.says("with i = wEnd / 8: it seals (kind, payload) at offset wEnd");
        SealedAuditLog log = Logs.started(8, 3, 12);
        int[] due = {0, 1, 2, 4, 5, 6, -5};
        for (int n = 0; n < due.length; n++) {
            checks.due("append " + n, log.append(n + 1, 10 * n), due[n]);
            if (due[n] >= 0) {
                checks.bytes("append " + n, log, 8 * due[n], n + 1, due[n], 0, 10 * n);
            }
        }
    }

    private static void closesTheEpoch(Checks checks) {
        checks.says("if now wSlot == E, it does checkpoint completion");
        for (int length = 2; length <= 8; length++) {
            SealedAuditLog log = Logs.filled(32, length, 12, length - 1);
            checks.due("hEpoch before", log.header(SealedAuditLog.H_EPOCH), 0);
            checks.due("append", log.append(9, 9), length - 1);
            checks.bytes("checkpoint", log, 8 * length, 255, length, 0, 0);
            checks.due("hEpoch after", log.header(SealedAuditLog.H_EPOCH), 1);
        }
    }

    private static void doesNotCloseTheEpoch(Checks checks) {
        checks.says("if now wSlot == E", "and not before");
        for (int length = 2; length <= 8; length++) {
            SealedAuditLog log = Logs.started(32, length, 12);
            for (int n = 1; n < length; n++) {
                log.armCrash(8);
                checks.due("append in mid-epoch takes 8 steps", log.append(9, 9), n - 1);
                checks.mode("append in mid-epoch", log, 0, false);
                checks.header("append in mid-epoch", log, 0, 12, 0, 0);
                checks.zeros("append in mid-epoch", log, 8 * n, 8 * n + 8);
            }
        }
    }

    private static void budgetCountsAcrossCalls(Checks checks) {
        checks.says("a budget set earlier keeps counting down across calls");
        SealedAuditLog log = Logs.started(16, 2, 77);
        log.armCrash(8 + 17 + 8 + 3);
        checks.due("first", log.append(1, 1), 0);
        checks.mode("first", log, 28, false);
        checks.due("second", log.append(2, 2), 1);
        checks.mode("second", log, 11, false);
        checks.due("refused", log.append(0, 2), SealedAuditLog.ERR_KIND);
        checks.mode("refused", log, 11, false);
        checks.due("third", log.append(3, 3), 3);
        checks.mode("third", log, 3, false);
        checks.due("fourth", log.append(4, 4), SealedAuditLog.ERR_LOST);
        checks.mode("fourth", log, -1, true);
    }

    private static void budgetJustEnough(Checks checks) {
        checks.says("Every step is subject to the budget rule of Write steps", "17 steps done, none left");
        SealedAuditLog log = Logs.torn(8, 2, 77, 1, STEPS);
        checks.mode("17 steps of 17", log, 0, false);
        checks.writer("17 steps of 17", log, 24, Logs.storedTag(log, 2), 0, 1);
        checks.due("the next one", log.append(1, 1), SealedAuditLog.ERR_LOST);
        checks.mode("the next one", log, -1, true);
        checks.zeros("the next one", log, 24, 64);
    }

    private static void lostInSteps1To8(Checks checks) {
        checks.says("a crash may happen before any of the 17 steps. .. ERR_LOST if a crash happened during steps "
            + "1..8. The kind byte is the last of those steps, so the record is not written; bytes already "
            + "written by earlier steps of the call stay in the log. The writer state is zeroed, crashed = "
            + "true, budget = -1, the header is unchanged.");
        for (int steps = 0; steps < 8; steps++) {
            crashAfter(checks, steps, SealedAuditLog.ERR_LOST);
        }
    }

    private static void crashInSteps9To17(Checks checks) {
        checks.says("Otherwise i, even when a crash happened during steps 9..17. In that case the data record is "
            + "complete, the crash zeroes the writer state and sets crashed = true and budget = -1, and the "
            + "header is replaced only if step 17 itself was done (a crash before step 17 leaves it unchanged)");
        for (int steps = 8; steps < STEPS; steps++) {
            crashAfter(checks, steps, 4);
        }
    }

    /** In a second epoch, so that the header that must stay is not the initial one. */
    private static void crashAfter(Checks checks, int steps, int due) {
        String call = "append with budget " + steps;
        SealedAuditLog log = Logs.filled(8, 2, 77, 3);
        int key = Model.ratchet(77);
        int[] data = Logs.record(key, Logs.storedTag(log, 3), 0xCD, 4, 0x5678);
        int[] checkpoint = Logs.record(key, Logs.tagOf(data), 255, 5, 1);
        log.armCrash(steps);
        Map<String, Integer> before = State.of(log);
        checks.due(call, log.append(0xCD, 0x5678), due);
        checks.mode(call, log, -1, true);
        checks.writer(call, log, 0, 0, 0, 0);
        checks.header(call, log, 24, key, before.get("hTag"), 1);
        for (int n = 0; n < 8; n++) {
            checks.due(call + ": data byte " + ORDER[n], log.storedByte(32 + ORDER[n]), n < steps ? data[ORDER[n]] : 0);
            checks.due(call + ": checkpoint byte " + ORDER[n], log.storedByte(40 + ORDER[n]),
                n + 8 < steps ? checkpoint[ORDER[n]] : 0);
        }
        for (int pos = 0; pos < 64; pos++) {
            if (pos < 32 || pos >= 48) {
                checks.due(call + ": byte " + pos, log.storedByte(pos), before.get("byte " + pos));
            }
        }
    }

    private static void withoutACrash(Checks checks) {
        checks.says("Without a crash: after the data record wEnd = 8*i + 8 and wTag is its tag; when a "
            + "checkpoint follows, wEnd = 8*i + 16, wTag is the checkpoint's tag, the header holds hEnd = wEnd, "
            + "hTag = wTag, hKey = ratchet of the old hKey, hEpoch = old wEpoch + 1, and wEpoch has grown by 1, "
            + "wSlot = 0");
        SealedAuditLog log = Logs.started(8, 2, 12345);
        checks.due("append(1, 100)", log.append(1, 100), 0);
        checks.writer("append(1, 100)", log, 8, 48452715, 1, 0);
        checks.header("append(1, 100)", log, 0, 12345, 0, 0);
        checks.due("append(2, 200)", log.append(2, 200), 1);
        checks.writer("append(2, 200)", log, 24, -1088005932, 0, 1);
        checks.header("append(2, 200)", log, 24, -1294923591, -1088005932, 1);
        checks.due("append(3, 300)", log.append(3, 300), 3);
        checks.writer("append(3, 300)", log, 32, -1177296449, 1, 1);
        checks.header("append(3, 300)", log, 24, -1294923591, -1088005932, 1);
    }

    private static void behindTheHeader(Checks checks) {
        checks.says("the header holds hEnd = wEnd", "also where drops have brought wEnd below the old hEnd");
        SealedAuditLog log = Logs.filled(12, 2, 31, 4);
        checks.due("hEnd", log.header(SealedAuditLog.H_END), 48);
        for (int n = 0; n < 6; n++) {
            log.dropRecord(0);
        }
        checks.due("append", log.append(1, 1), 0);
        checks.due("append", log.append(2, 2), 1);
        int key = Model.ratchet(Model.ratchet(Model.ratchet(31)));
        checks.header("third epoch", log, 24, key, Logs.storedTag(log, 2), 3);
        checks.bytes("third checkpoint", log, 16, 255, 2, 0, 2);
    }

    private static void leavesTheRest(Checks checks) {
        checks.says("Not changed by append: started, vKey, reason, R, E, and every log byte outside the written "
            + "record(s)");
        SealedAuditLog log = Logs.filled(16, 2, 77, 1);
        log.tamper(7, log.storedByte(7) ^ 1);
        log.verify();
        for (int pos = 16; pos < 128; pos++) {
            Logs.plant(log, pos, 0xEE);
        }
        Map<String, Integer> before = State.of(log);
        checks.due("append", log.append(2, 2), 1);
        String[] changed = {"wEnd", "wTag", "wSlot", "wEpoch", "hEnd", "hKey", "hTag", "hEpoch"};
        checks.onlyChanged("append", before, log, Logs.bytesAnd(8, 24, changed));
        before = State.of(log);
        checks.due("append", log.append(3, 3), 3);
        checks.onlyChanged("append", before, log, Logs.bytesAnd(24, 32, "wEnd", "wTag", "wSlot"));
        checks.due("vKey: verify() finds the changed tag again", log.verify(), 0);
        log.armCrash(0);
        checks.due("append", log.append(2, 2), SealedAuditLog.ERR_LOST);
        checks.due("reason after a crash", log.verifyReason(), SealedAuditLog.R_TAG);
        checks.due("started after a crash", log.writer(SealedAuditLog.W_STARTED), 1);
    }
}
