/** Promise 12: header answers its four fields, 0 for any other, in any state. */
public final class Promise12HeaderTest {
    public static void main(String[] args) {
        Checks checks = new Checks();
        fields(checks);
        otherFields(checks);
        inAnyState(checks);
        checks.end();
    }

    private static void read(Checks checks, String state, SealedAuditLog log, int... due) {
        for (int f = 0; f < 4; f++) {
            int field = f;
            checks.inert("header(" + f + "), " + state, log, () -> log.header(field), due[f]);
        }
    }

    private static void fields(Checks checks) {
        checks.says("H_END answers hEnd; H_KEY answers hKey; H_TAG answers hTag; H_EPOCH answers hEpoch");
        SealedAuditLog log = Logs.started(8, 2, 12345);
        log.append(1, 100);
        read(checks, "mid-epoch", log, 0, 12345, 0, 0);
        log.append(2, 200);
        read(checks, "after a checkpoint", log, 24, -1294923591, -1088005932, 1);
        log.append(3, 300);
        read(checks, "in the next epoch", log, 24, -1294923591, -1088005932, 1);
    }

    private static void otherFields(Checks checks) {
        checks.says("any other f answers 0");
        SealedAuditLog log = Logs.filled(8, 2, 12345, 3);
        for (int f : new int[] {-1, -2, 4, 5, 8, 9, 256, 260, 1 << 16, Integer.MIN_VALUE, Integer.MAX_VALUE}) {
            checks.inert("header(" + f + ")", log, () -> log.header(f), 0);
        }
    }

    private static void inAnyState(Checks checks) {
        checks.says("header(f) works in any state and changes nothing");
        read(checks, "new", new SealedAuditLog(8, 2), 0, 0, 0, 0);
        read(checks, "started", Logs.started(8, 2, -1), 0, -1, 0, 0);
        read(checks, "crashed while empty", Logs.crashed(8, 2, -1, 0), 0, -1, 0, 0);
        SealedAuditLog log = Logs.filled(8, 2, 7, 2);
        int key = Model.ratchet(7);
        int tag = Logs.storedTag(log, 2);
        read(checks, "after a checkpoint", log, 24, key, tag, 1);
        log.crash();
        read(checks, "crashed", log, 24, key, tag, 1);
        log.recover();
        read(checks, "recovered", log, 24, key, tag, 1);
        log.dropRecord(0);
        read(checks, "after a drop", log, 24, key, tag, 1);
        log.armCrash(0);
        read(checks, "armed", log, 24, key, tag, 1);
    }
}
