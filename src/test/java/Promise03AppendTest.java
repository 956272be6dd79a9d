import java.util.Map;

/** Promise 3: append's refusals in order, its records, checkpoints, and a crash before each step. */
public final class Promise03AppendTest {
    /** Steps of an append that fills an epoch. */
    private static final int STEPS = 17;

    public static void main(String[] args) {
        Checks checks = new Checks();
        knownTags(checks);
        valuesAtTheEdges(checks);
        refusalsInOrder(checks);
        fullLog(checks);
        fullForAllSizes(checks);
        lostWithinTheRecord(checks);
        for (int steps = 0; steps <= STEPS; steps++) {
            crashBeforeStep(checks, steps);
        }
        budgetCountsAcrossCalls(checks);
        leavesTheReason(checks);
        epochNumberWraps(checks);
        checks.end();
    }

    /** The tags here were worked out outside Java. */
    private static void knownTags(Checks checks) {
        SealedAuditLog log = Logs.started(8, 2, 12345);
        checks.due("append(1, 100)", log.append(1, 100), 0);
        checks.writer("append(1, 100)", log, 8, 48452715, 1, 0);
        checks.header("append(1, 100)", log, 0, 12345, 0, 0);
        checks.bytes("append(1, 100)", log, 0, 1, 0, 0, 100, 0x02, 0xE3, 0x54, 0x6B, 0);
        checks.due("append(2, 200)", log.append(2, 200), 1);
        checks.writer("append(2, 200)", log, 24, -1088005932, 0, 1);
        checks.header("append(2, 200)", log, 24, -1294923591, -1088005932, 1);
        checks.due("tag of record 1", Logs.storedTag(log, 1), -1901695221);
        checks.bytes("checkpoint", log, 16, 255, 2, 0, 0);
        checks.due("tag of the checkpoint", Logs.storedTag(log, 2), -1088005932);
        checks.due("append(3, 300)", log.append(3, 300), 3);
        checks.bytes("append(3, 300)", log, 24, 3, 3, 1, 44);
        checks.writer("append(3, 300)", log, 32, -1177296449, 1, 1);
        checks.header("append(3, 300)", log, 24, -1294923591, -1088005932, 1);
    }

    private static void valuesAtTheEdges(Checks checks) {
        int[][] tags = {
            {0, -903696049, 303086414, -1871654493, -1082462464, 220122040, -944764598, 883951349, 2005345061},
            {1, 1816653787, -750156546, 1944222576, -1705083410, -119470167, 2135562756, -88175620, 1550570086},
            {-1, -155543448, -403202307, -1071479250, -946151800, 1744802193, 2115740406, 1320730028, 856642376},
            {Integer.MIN_VALUE, 925429642, 1462087088, 195156917, -632600908, 1762387572, 1498174500, -936743582,
                1525014863},
            {Integer.MAX_VALUE, -1581368417, 1618262126, -2072175237, -1395260204, 596150818, 874775046, 878587368,
                -1451657694}};
        for (int[] row : tags) {
            SealedAuditLog log = Logs.started(8, 2, row[0]);
            checks.due("append(254, 65535)", log.append(254, 65535), 0);
            checks.writer("append(254, 65535)", log, 8, row[1], 1, 0);
            checks.bytes("append(254, 65535)", log, 0, 254, 0, 255, 255);
            checks.due("append(1, 0)", log.append(1, 0), 1);
            checks.due("tag of append(1, 0)", Logs.storedTag(log, 1), row[2]);
            checks.header("append(1, 0)", log, 24, row[4], row[3], 1);
            checks.due("append(128, 4660)", log.append(0x80, 0x1234), 3);
            checks.writer("append(128, 4660)", log, 32, row[5], 1, 1);
            checks.bytes("append(128, 4660)", log, 24, 0x80, 3, 0x12, 0x34);
            checks.due("append(7, 256)", log.append(7, 256), 4);
            checks.due("tag of append(7, 256)", Logs.storedTag(log, 4), row[6]);
            checks.bytes("second checkpoint", log, 40, 255, 5, 0, 1);
            checks.header("append(7, 256)", log, 48, row[8], row[7], 2);
        }
    }

    private static void refused(Checks checks, SealedAuditLog log, int kind, int payload, int due) {
        String call = "append(" + kind + ", " + payload + ")";
        Map<String, Integer> before = State.of(log);
        checks.due(call, log.append(kind, payload), due);
        checks.unchanged(call, before, log);
    }

    private static void refusalsInOrder(Checks checks) {
        int[] wrongKinds = {0, 255, 256, 257, -1, Integer.MIN_VALUE, Integer.MAX_VALUE};
        int[] wrongPayloads = {-1, 65536, Integer.MIN_VALUE, Integer.MAX_VALUE};
        SealedAuditLog unstarted = new SealedAuditLog(4, 2);
        SealedAuditLog crashed = Logs.crashed(4, 2, 1, 1);
        SealedAuditLog open = Logs.filled(4, 2, 1, 1);
        SealedAuditLog full = Logs.filled(4, 2, 1, 3);
        for (SealedAuditLog log : new SealedAuditLog[] {unstarted, crashed, open, full}) {
            log.armCrash(0);
            int first = log == unstarted ? SealedAuditLog.ERR_NOT_STARTED : log == crashed ? SealedAuditLog.ERR_CRASHED : 0;
            for (int kind : wrongKinds) {
                refused(checks, log, kind, 5, first != 0 ? first : SealedAuditLog.ERR_KIND);
                refused(checks, log, kind, -1, first != 0 ? first : SealedAuditLog.ERR_KIND);
            }
            for (int payload : wrongPayloads) {
                refused(checks, log, 5, payload, first != 0 ? first : SealedAuditLog.ERR_PAYLOAD);
            }
        }
        refused(checks, unstarted, 5, 5, SealedAuditLog.ERR_NOT_STARTED);
        refused(checks, crashed, 5, 5, SealedAuditLog.ERR_CRASHED);
        refused(checks, full, 5, 5, SealedAuditLog.ERR_FULL);
        checks.due("open log with budget 0", open.append(5, 5), SealedAuditLog.ERR_LOST);
    }

    private static void fullLog(Checks checks) {
        // Room for one record, but the epoch's last record needs its checkpoint too.
        SealedAuditLog log = Logs.filled(5, 2, 7, 3);
        checks.writer("four records of five", log, 32, Logs.storedTag(log, 3), 1, 1);
        refused(checks, log, 1, 1, SealedAuditLog.ERR_FULL);
        // Room for exactly both.
        log = Logs.filled(6, 2, 7, 3);
        checks.due("last two records", log.append(1, 1), 4);
        checks.header("last two records", log, 48, Model.ratchet(Model.ratchet(7)), Logs.storedTag(log, 5), 2);
        refused(checks, log, 1, 1, SealedAuditLog.ERR_FULL);
        // Room for exactly one that does not fill the epoch.
        log = Logs.filled(4, 3, 7, 3);
        refused(checks, log, 1, 1, SealedAuditLog.ERR_FULL);
        log = Logs.filled(5, 3, 7, 3);
        checks.due("last record", log.append(1, 1), 4);
        refused(checks, log, 1, 1, SealedAuditLog.ERR_FULL);
    }

    private static void fullForAllSizes(Checks checks) {
        for (int records = 4; records <= 32; records++) {
            for (int length = 2; length <= 8; length++) {
                SealedAuditLog log = Logs.started(records, length, records * 31 + length);
                int i = 0;
                while (i < records && (i % (length + 1) != length - 1 || i + 1 < records)) {
                    checks.due("append at " + i, log.append(9, i), i);
                    i += i % (length + 1) == length - 1 ? 2 : 1;
                }
                refused(checks, log, 9, 9, SealedAuditLog.ERR_FULL);
                checks.due("wEnd", log.writer(SealedAuditLog.W_END), 8 * i);
                checks.due("verify", log.verify(), SealedAuditLog.V_ACCEPT);
            }
        }
    }

    /** A record in the midst of an epoch takes 8 steps and no more. */
    private static void lostWithinTheRecord(Checks checks) {
        int[] record = Logs.record(5, 0, 0xAB, 0, 0x1234);
        int[] order = {1, 2, 3, 4, 5, 6, 7, 0};
        for (int steps = 0; steps <= 8; steps++) {
            SealedAuditLog log = Logs.started(4, 3, 5);
            log.armCrash(steps);
            checks.due(steps + " steps", log.append(0xAB, 0x1234), steps < 8 ? SealedAuditLog.ERR_LOST : 0);
            checks.mode(steps + " steps", log, steps < 8 ? -1 : 0, steps < 8);
            checks.header(steps + " steps", log, 0, 5, 0, 0);
            for (int n = 0; n < 8; n++) {
                checks.due(steps + " steps: byte " + order[n], log.storedByte(order[n]), n < steps ? record[order[n]] : 0);
            }
            checks.due("next append", log.append(1, 1), steps < 8 ? SealedAuditLog.ERR_CRASHED : SealedAuditLog.ERR_LOST);
        }
    }

    private static void crashBeforeStep(Checks checks, int steps) {
        String call = "append with budget " + steps;
        SealedAuditLog log = Logs.filled(8, 2, 77, 1);
        int firstTag = Logs.storedTag(log, 0);
        int[] data = Logs.record(77, firstTag, 0xCD, 1, 0x5678);
        int[] checkpoint = Logs.record(77, Logs.tagOf(data), 255, 2, 0);
        log.verify();
        Map<String, Integer> before = State.of(log);
        log.armCrash(steps);
        checks.due(call, log.append(0xCD, 0x5678), steps < 8 ? SealedAuditLog.ERR_LOST : 1);
        checks.mode(call, log, steps < STEPS ? -1 : 0, steps < STEPS);
        int[] order = {1, 2, 3, 4, 5, 6, 7, 0};
        for (int n = 0; n < 8; n++) {
            checks.due(call + ": data byte " + order[n], log.storedByte(8 + order[n]), n < steps ? data[order[n]] : 0);
            checks.due(call + ": checkpoint byte " + order[n], log.storedByte(16 + order[n]),
                n + 8 < steps ? checkpoint[order[n]] : 0);
        }
        if (steps < STEPS) {
            checks.writer(call, log, 0, 0, 0, 0);
            checks.header(call, log, 0, 77, 0, 0);
        } else {
            checks.writer(call, log, 24, Logs.tagOf(checkpoint), 0, 1);
            checks.header(call, log, 24, Model.ratchet(77), Logs.tagOf(checkpoint), 1);
        }
        for (int pos = 0; pos < 64; pos++) {
            if (pos < 8 || pos >= 24) {
                checks.due(call + ": byte " + pos, log.storedByte(pos), before.get("byte " + pos));
            }
        }
    }

    private static void budgetCountsAcrossCalls(Checks checks) {
        SealedAuditLog log = Logs.started(16, 2, 77);
        log.armCrash(8 + 17 + 8 + 3);
        checks.due("first", log.append(1, 1), 0);
        checks.mode("first", log, 28, false);
        checks.due("second", log.append(2, 2), 1);
        checks.mode("second", log, 11, false);
        checks.due("refused", log.append(0, 2), SealedAuditLog.ERR_KIND);
        checks.mode("refused", log, 11, false);
        checks.due("third", log.append(3, 3), 3);
        checks.mode("third", log, 3, false);
        checks.due("fourth", log.append(4, 4), SealedAuditLog.ERR_LOST);
        checks.mode("fourth", log, -1, true);
    }

    private static void leavesTheReason(Checks checks) {
        SealedAuditLog log = Logs.filled(16, 2, 77, 1);
        log.tamper(7, log.storedByte(7) ^ 1);
        log.verify();
        checks.due("append", log.append(2, 2), 1);
        checks.due("reason after append", log.verifyReason(), SealedAuditLog.R_TAG);
        log.armCrash(0);
        checks.due("append", log.append(2, 2), SealedAuditLog.ERR_LOST);
        checks.due("reason after a crash", log.verifyReason(), SealedAuditLog.R_TAG);
    }

    private static void epochNumberWraps(Checks checks) {
        SealedAuditLog log = Logs.started(8, 2, 4);
        for (int epoch = 0; epoch < 65536; epoch++) {
            log.append(1, 1);
            log.append(2, 2);
            log.dropRecord(0);
            log.dropRecord(0);
            log.dropRecord(0);
        }
        checks.due("wEpoch", log.writer(SealedAuditLog.W_EPOCH), 65536);
        log.append(1, 1);
        log.append(2, 2);
        checks.bytes("checkpoint 65536", log, 16, 255, 2, 0, 0);
        checks.due("hEpoch", log.header(SealedAuditLog.H_EPOCH), 65537);
        log.append(3, 3);
        log.armCrash(16);
        log.append(4, 4);
        checks.bytes("checkpoint 65537", log, 40, 255, 5, 0, 1);
        checks.due("recover accepts it", log.recover(), 6);
        checks.due("hEpoch", log.header(SealedAuditLog.H_EPOCH), 65538);
        checks.due("wEpoch", log.writer(SealedAuditLog.W_EPOCH), 65538);
    }
}
