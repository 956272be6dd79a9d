import java.util.Map;

/** Promise 13: writer answers its nine fields, 0 for any other, in any state. */
public final class Promise13WriterTest {
    public static void main(String[] args) {
        Checks checks = new Checks();
        read(checks, new SealedAuditLog(9, 3), 0, 0, 0, 0, -1, 0, 0, 72, 3);
        read(checks, Logs.started(32, 8, 1), 0, 0, 0, 0, -1, 0, 1, 256, 8);
        SealedAuditLog log = Logs.started(8, 2, 12345);
        log.armCrash(40);
        read(checks, log, 0, 0, 0, 0, 40, 0, 1, 64, 2);
        log.append(1, 100);
        read(checks, log, 8, 48452715, 1, 0, 32, 0, 1, 64, 2);
        log.append(2, 200);
        read(checks, log, 24, -1088005932, 0, 1, 15, 0, 1, 64, 2);
        log.append(3, 300);
        read(checks, log, 32, -1177296449, 1, 1, 7, 0, 1, 64, 2);
        log.append(4, 400);
        read(checks, log, 0, 0, 0, 0, -1, 1, 1, 64, 2);
        log.recover();
        read(checks, log, 32, -1177296449, 1, 1, -1, 0, 1, 64, 2);
        checks.end();
    }

    private static void read(Checks checks, SealedAuditLog log, int... due) {
        Map<String, Integer> before = State.of(log);
        for (int f = 0; f < due.length; f++) {
            checks.due("writer(" + f + ")", log.writer(f), due[f]);
        }
        for (int f : new int[] {-1, 9, 10, 256, Integer.MIN_VALUE, Integer.MAX_VALUE}) {
            checks.due("writer(" + f + ")", log.writer(f), 0);
        }
        checks.unchanged("writer", before, log);
    }
}
