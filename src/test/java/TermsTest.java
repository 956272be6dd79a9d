import java.util.Map;

/** The document's "Terms used below": layout, functions, epochs, state, steps, sealing, checkpoints. */
public final class TermsTest {
    /** The places within a record in the order in which they are written. */
    private static final int[] ORDER = {1, 2, 3, 4, 5, 6, 7, 0};

    public static void main(String[] args) {
        Checks checks = new Checks();
        kinds(checks);
        sequences(checks);
        payloads(checks);
        tagBytes(checks);
        rebuiltTags(checks);
        functionsOfEdgeKeys(checks);
        knownTags(checks);
        ratchetsFixedPoint(checks);
        tagZero(checks);
        epochs(checks);
        epochNumberWraps(checks);
        firstPrevIsZero(checks);
        sealsWithTheWritersTag(checks);
        slots(checks);
        verifiersKeyStays(checks);
        sealsWithTheHeadersKey(checks);
        crashLosesTheVolatile(checks);
        budgetZero(checks);
        budgetAboveZero(checks);
        budgetDisarmed(checks);
        recoverNeverCrashes(checks);
        orderOfTheSteps(checks);
        lastRecordOfTheLog(checks);
        headerIsOneStep(checks);
        checks.end();
    }

    private static void kinds(Checks checks) {
        checks.says("byte p+0: kind (1..254 = data, 255 = KIND_CHECKPOINT; 0 = no record)");
        SealedAuditLog log = Logs.started(8, 2, 3);
        log.append(1, 0);
        log.append(254, 0);
        checks.bytes("least kind", log, 0, 1);
        checks.bytes("greatest kind", log, 8, 254);
        checks.bytes("checkpoint", log, 16, 255);
        checks.bytes("no record", log, 24, 0);
    }

    private static void sequences(Checks checks) {
        checks.says("byte p+1: sequence = i & 0xFF");
        SealedAuditLog log = Logs.filled(32, 8, 3, 29);
        for (int i = 0; i < 32; i++) {
            checks.due("sequence of record " + i, log.storedByte(8 * i + 1), i);
        }
    }

    private static void payloads(Checks checks) {
        checks.says("bytes p+2, p+3: payload, high byte first (0..65535)");
        int[][] rows = {{0, 0, 0}, {1, 0, 1}, {127, 0, 127}, {128, 0, 128}, {255, 0, 255}, {256, 1, 0}, {257, 1, 1},
            {32767, 127, 255}, {32768, 128, 0}, {65280, 255, 0}, {65535, 255, 255}};
        for (int[] row : rows) {
            SealedAuditLog log = Logs.started(4, 2, 3);
            checks.due("append(9, " + row[0] + ")", log.append(9, row[0]), 0);
            checks.bytes("payload " + row[0], log, 2, row[1], row[2]);
        }
    }

    /** Keys worked out outside Java, so that append(9, 0x1234) has just this tag. */
    private static final int[][] KEY_AND_TAG = {{-1516036090, 0}, {-2067632842, -1}, {1893380272, Integer.MIN_VALUE},
        {428260156, 0x00FF0080}, {59644119, 0x7F80FF01}};

    private static void tagBytes(Checks checks) {
        checks.says("bytes p+4..p+7: tag, an int stored big-endian");
        int[][] bytes = {{0, 0, 0, 0}, {255, 255, 255, 255}, {128, 0, 0, 0}, {0, 255, 0, 128}, {127, 128, 255, 1}};
        for (int n = 0; n < bytes.length; n++) {
            SealedAuditLog log = Logs.started(4, 2, KEY_AND_TAG[n][0]);
            log.append(9, 0x1234);
            checks.due("wTag", log.writer(SealedAuditLog.W_TAG), KEY_AND_TAG[n][1]);
            checks.bytes("tag " + KEY_AND_TAG[n][1], log, 4, bytes[n]);
        }
    }

    private static void rebuiltTags(Checks checks) {
        checks.says("The stored tag of a record is the int rebuilt from these four bytes in the same order");
        for (int[] row : KEY_AND_TAG) {
            SealedAuditLog log = Logs.started(4, 2, row[0]);
            log.append(9, 0x1234);
            checks.due("verify()", log.verify(), SealedAuditLog.V_ACCEPT);
            log.crash();
            checks.due("recover()", log.recover(), 1);
            checks.due("wTag as stored", log.writer(SealedAuditLog.W_TAG), row[1]);
        }
    }

    /** The tags and keys of the next two were worked out outside Java. */
    private static void functionsOfEdgeKeys(Checks checks) {
        checks.says("All int arithmetic wraps as in Java; >>> is the unsigned right shift");
        int[][] tags = {
            {0, -903696049, 303086414, -1871654493, -1082462464, 220122040, -944764598, 883951349, 2005345061},
            {1, 1816653787, -750156546, 1944222576, -1705083410, -119470167, 2135562756, -88175620, 1550570086},
            {-1, -155543448, -403202307, -1071479250, -946151800, 1744802193, 2115740406, 1320730028, 856642376},
            {Integer.MIN_VALUE, 925429642, 1462087088, 195156917, -632600908, 1762387572, 1498174500, -936743582,
                1525014863},
            {Integer.MAX_VALUE, -1581368417, 1618262126, -2072175237, -1395260204, 596150818, 874775046, 878587368,
                -1451657694}};
        for (int[] row : tags) {
            SealedAuditLog log = Logs.started(8, 2, row[0]);
            checks.due("append(254, 65535)", log.append(254, 65535), 0);
            checks.writer("append(254, 65535)", log, 8, row[1], 1, 0);
            checks.due("append(1, 0)", log.append(1, 0), 1);
            checks.due("tag of append(1, 0)", Logs.storedTag(log, 1), row[2]);
            checks.header("append(1, 0)", log, 24, row[4], row[3], 1);
            checks.due("append(128, 4660)", log.append(0x80, 0x1234), 3);
            checks.writer("append(128, 4660)", log, 32, row[5], 1, 1);
            checks.due("append(7, 256)", log.append(7, 256), 4);
            checks.due("tag of append(7, 256)", Logs.storedTag(log, 4), row[6]);
            checks.header("append(7, 256)", log, 48, row[8], row[7], 2);
        }
    }

    private static void knownTags(Checks checks) {
        checks.says("ratchet(k) = .. tag(k, prev, b0, b1, b2, b3): s = k ^ prev", "values worked out outside Java");
        SealedAuditLog log = Logs.started(8, 2, 12345);
        log.append(1, 100);
        log.append(2, 200);
        log.append(3, 300);
        checks.due("tag of record 0", Logs.storedTag(log, 0), 48452715);
        checks.due("tag of record 1", Logs.storedTag(log, 1), -1901695221);
        checks.due("tag of the checkpoint", Logs.storedTag(log, 2), -1088005932);
        checks.due("tag of record 3", Logs.storedTag(log, 3), -1177296449);
        checks.header("one epoch", log, 24, -1294923591, -1088005932, 1);
    }

    private static void ratchetsFixedPoint(Checks checks) {
        checks.says("ratchet(k) = mix(k ^ 0x6A09E667) ^ k", "mix(0) is 0, so this one key stays");
        SealedAuditLog log = Logs.filled(8, 2, 0x6A09E667, 3);
        checks.header("one epoch", log, 24, 0x6A09E667, Logs.storedTag(log, 2), 1);
        checks.due("verify()", log.verify(), SealedAuditLog.V_ACCEPT);
    }

    private static void tagZero(Checks checks) {
        checks.says("s = mix(s ^ b3); answer s", "a tag may be 0");
        SealedAuditLog log = Logs.started(8, 2, 1);
        checks.due("append(1, 0)", log.append(1, 0), 0);
        checks.bytes("record with tag 0", log, 0, 1, 0, 0, 0, 0, 0, 0, 0);
        checks.writer("record with tag 0", log, 8, 0, 1, 0);
        checks.due("verify()", log.verify(), SealedAuditLog.V_ACCEPT);
        log.crash();
        checks.due("recover()", log.recover(), 1);
        checks.writer("recovered", log, 8, 0, 1, 0);
    }

    private static void epochs(Checks checks) {
        checks.says("The log is a run of epochs: E data records, then one checkpoint record .. All records of "
            + "epoch e, its checkpoint included, are sealed with key K_e");
        for (int length = 2; length <= 8; length++) {
            SealedAuditLog log = Logs.filled(32, length, 2024, 31);
            int key = 2024;
            int prev = 0;
            int count = 0;
            for (int i = 0; i < log.writer(SealedAuditLog.W_END) / 8; i++) {
                boolean last = i % (length + 1) == length;
                count += last ? 0 : 1;
                int epoch = i / (length + 1);
                int[] due = Logs.record(key, prev, last ? 255 : count, i, last ? epoch : 1000 + count);
                checks.bytes("E = " + length + ", record " + i, log, 8 * i, due);
                prev = Logs.tagOf(due);
                key = last ? Model.ratchet(key) : key;
            }
            checks.due("hKey", log.header(SealedAuditLog.H_KEY), key);
        }
    }

    private static void epochNumberWraps(Checks checks) {
        checks.says("one checkpoint record whose payload is the epoch number e & 0xFFFF");
        int[][] rows = {{255, 0, 255}, {256, 1, 0}, {65535, 255, 255}, {65536, 0, 0}, {65537, 0, 1}};
        for (int[] row : rows) {
            SealedAuditLog log = Logs.inEpoch(8, row[0]);
            int end = log.writer(SealedAuditLog.W_END);
            log.append(1, 1);
            log.append(2, 2);
            checks.bytes("checkpoint " + row[0], log, end + 16, 255, end / 8 + 2, row[1], row[2]);
            checks.due("hEpoch", log.header(SealedAuditLog.H_EPOCH), row[0] + 1);
            checks.due("wEpoch", log.writer(SealedAuditLog.W_EPOCH), row[0] + 1);
        }
    }

    private static void firstPrevIsZero(Checks checks) {
        checks.says("The prev of a tag is 0 for record 0 and otherwise the tag of the record before");
        SealedAuditLog log = Logs.filled(8, 2, 606, 3);
        checks.bytes("record 0", log, 0, Logs.record(606, 0, 1, 0, 1001));
        checks.bytes("record 1", log, 8, Logs.record(606, Logs.storedTag(log, 0), 2, 1, 1002));
        checks.bytes("checkpoint", log, 16, Logs.record(606, Logs.storedTag(log, 1), 255, 2, 0));
        checks.bytes("record 3", log, 24, Logs.record(Model.ratchet(606), Logs.storedTag(log, 2), 3, 3, 1003));
    }

    private static void sealsWithTheWritersTag(Checks checks) {
        checks.says("t = tag(hKey, wTag, b0, b1, b2, b3)", "also for a record 0 written anew after a drop");
        SealedAuditLog log = Logs.filled(8, 3, 606, 1);
        int tag = log.writer(SealedAuditLog.W_TAG);
        log.dropRecord(0);
        checks.due("append", log.append(5, 5), 0);
        checks.bytes("record 0", log, 0, Logs.record(606, tag, 5, 0, 5));
        checks.due("verify(), which takes prev as 0", log.verify(), 0);
        checks.due("verifyReason()", log.verifyReason(), SealedAuditLog.R_TAG);
    }

    private static void slots(Checks checks) {
        checks.says("wSlot (data records since the last checkpoint, 0..E), wEpoch");
        for (int length = 2; length <= 8; length++) {
            SealedAuditLog log = Logs.started(32, length, 1);
            for (int count = 0; count < 3 * length; count++) {
                checks.due("wSlot", log.writer(SealedAuditLog.W_SLOT), count % length);
                checks.due("wEpoch", log.writer(SealedAuditLog.W_EPOCH), count / length);
                log.append(1, 1);
            }
        }
    }

    private static void verifiersKeyStays(Checks checks) {
        checks.says("vKey (the verifier's copy of the initial key, never changed after start)");
        SealedAuditLog log = Logs.started(32, 2, 88);
        for (int epoch = 0; epoch < 10; epoch++) {
            log.append(1, epoch);
            log.armCrash(8 + epoch % 9);
            log.append(2, epoch);
            log.start(99);
            log.recover();
            checks.due("verify() after epoch " + epoch, log.verify(), SealedAuditLog.V_ACCEPT);
            checks.due("hEpoch", log.header(SealedAuditLog.H_EPOCH), epoch + 1);
        }
    }

    private static void sealsWithTheHeadersKey(Checks checks) {
        checks.says("The writer always seals with hKey.");
        SealedAuditLog log = Logs.crashed(32, 3, 88, 7);
        log.recover();
        int key = Model.ratchet(Model.ratchet(88));
        checks.due("hKey", log.header(SealedAuditLog.H_KEY), key);
        int prev = log.writer(SealedAuditLog.W_TAG);
        checks.due("append", log.append(5, 6), 9);
        checks.bytes("append after recover()", log, 72, Logs.record(key, prev, 5, 9, 6));
    }

    private static void crashLosesTheVolatile(Checks checks) {
        checks.says("Durable (kept by a crash): the log bytes and the header .. Volatile writer state (all set "
            + "to 0 by a crash)");
        SealedAuditLog log = Logs.filled(8, 2, 50, 3);
        log.armCrash(0);
        Map<String, Integer> before = State.of(log);
        log.append(1, 1);
        checks.writer("crash", log, 0, 0, 0, 0);
        checks.onlyChanged("crash", before, log, "wEnd", "wTag", "wSlot", "wEpoch", "budget", "crashed");
    }

    private static void budgetZero(Checks checks) {
        checks.says("if budget == 0 a CRASH happens instead: the step is not done, crashed = true, budget = -1 "
            + ".. and the call does no further work");
        SealedAuditLog log = Logs.started(8, 2, 5);
        log.armCrash(0);
        checks.due("append", log.append(1, 0xFFFF), SealedAuditLog.ERR_LOST);
        checks.zeros("append", log, 0, 64);
        checks.mode("append", log, -1, true);
    }

    private static void budgetAboveZero(Checks checks) {
        checks.says("Else if budget > 0 it is decreased by 1 and the step is done");
        for (int budget : new int[] {8, 9, 1000, Integer.MAX_VALUE}) {
            SealedAuditLog log = Logs.started(8, 2, 5);
            log.armCrash(budget);
            checks.due("append", log.append(1, 1), 0);
            checks.mode("append with budget " + budget, log, budget - 8, false);
        }
        SealedAuditLog log = Logs.started(8, 2, 5);
        log.armCrash(1);
        checks.due("append", log.append(1, 0xFFFF), SealedAuditLog.ERR_LOST);
        checks.zeros("only the sequence, 0, is written", log, 0, 64);
        checks.mode("append with budget 1", log, -1, true);
    }

    private static void budgetDisarmed(Checks checks) {
        checks.says("if budget == -1 the step is done");
        SealedAuditLog log = Logs.started(32, 8, 5);
        for (int n = 0; n < 28; n++) {
            checks.due("append", log.append(1, 1) >= 0, true);
            checks.mode("append", log, -1, false);
        }
    }

    private static void recoverNeverCrashes(Checks checks) {
        checks.says("Steps of recover never crash and never touch budget beyond what Promise 6 says");
        for (int budget : new int[] {-1, 0, 1, 8, 9, 100}) {
            SealedAuditLog log = Logs.torn(8, 2, 5, 1, 8);
            log.armCrash(budget);
            checks.due("recover that writes a checkpoint", log.recover(), 3);
            checks.mode("recover with budget " + budget, log, -1, false);
            checks.unchanged("recover with budget " + budget, State.of(Logs.filled(8, 2, 5, 2)), log);
        }
    }

    private static void orderOfTheSteps(Checks checks) {
        checks.says("It is 8 steps in this order: b1 to p+1, b2 to p+2, b3 to p+3, b4 to p+4, b5 to p+5, b6 to "
            + "p+6, b7 to p+7, and last b0 to p. After the 8th step: wEnd = p + 8, wTag = t.");
        for (int steps = 0; steps <= 8; steps++) {
            SealedAuditLog log = Logs.filled(4, 4, 5, 1);
            int[] record = Logs.record(5, Logs.storedTag(log, 0), 0xAB, 1, 0x1234);
            log.armCrash(steps);
            checks.due(steps + " steps", log.append(0xAB, 0x1234), steps < 8 ? SealedAuditLog.ERR_LOST : 1);
            checks.mode(steps + " steps", log, steps < 8 ? -1 : 0, steps < 8);
            for (int n = 0; n < 8; n++) {
                int pos = 8 + ORDER[n];
                checks.due(steps + " steps: byte " + pos, log.storedByte(pos), n < steps ? record[ORDER[n]] : 0);
            }
            checks.due("wEnd", log.writer(SealedAuditLog.W_END), steps < 8 ? 0 : 16);
            checks.due("wTag", log.writer(SealedAuditLog.W_TAG), steps < 8 ? 0 : Logs.tagOf(record));
        }
    }

    private static void lastRecordOfTheLog(Checks checks) {
        checks.says("b1 = (p / 8) & 0xFF", "at the log's last offset");
        SealedAuditLog log = Logs.filled(32, 8, 5, 28);
        int prev = log.writer(SealedAuditLog.W_TAG);
        checks.due("append", log.append(77, 88), 31);
        checks.bytes("record 31", log, 248, Logs.record(log.header(SealedAuditLog.H_KEY), prev, 77, 31, 88));
    }

    private static void headerIsOneStep(Checks checks) {
        checks.says("then one step replaces the header: hEnd = wEnd, hTag = wTag, hKey = ratchet(hKey), hEpoch "
            + "= wEpoch + 1; then wEpoch = wEpoch + 1, wSlot = 0");
        SealedAuditLog log = Logs.torn(8, 2, 5, 1, 16);
        checks.bytes("the checkpoint is whole", log, 16, 255, 2, 0, 0);
        checks.header("before the header's step", log, 0, 5, 0, 0);
        checks.mode("before the header's step", log, -1, true);
        log = Logs.torn(8, 2, 5, 1, 17);
        int tag = Logs.storedTag(log, 2);
        checks.header("after the header's step", log, 24, Model.ratchet(5), tag, 1);
        checks.writer("after the header's step", log, 24, tag, 0, 1);
        checks.mode("after the header's step", log, 0, false);
    }
}
