import java.util.Map;

/** Promise 12: header answers its four fields, 0 for any other, in any state. */
public final class Promise12HeaderTest {
    public static void main(String[] args) {
        Checks checks = new Checks();
        read(checks, new SealedAuditLog(8, 2), 0, 0, 0, 0);
        read(checks, Logs.started(8, 2, 1), 0, 1, 0, 0);
        read(checks, Logs.filled(8, 2, 12345, 1), 0, 12345, 0, 0);
        SealedAuditLog log = Logs.started(8, 2, 12345);
        log.append(1, 100);
        log.append(2, 200);
        log.append(3, 300);
        read(checks, log, 24, -1294923591, -1088005932, 1);
        log.crash();
        read(checks, log, 24, -1294923591, -1088005932, 1);
        checks.end();
    }

    private static void read(Checks checks, SealedAuditLog log, int end, int key, int tag, int epoch) {
        Map<String, Integer> before = State.of(log);
        checks.due("header(0)", log.header(0), end);
        checks.due("header(1)", log.header(1), key);
        checks.due("header(2)", log.header(2), tag);
        checks.due("header(3)", log.header(3), epoch);
        for (int f : new int[] {-1, 4, 5, 8, 256, Integer.MIN_VALUE, Integer.MAX_VALUE}) {
            checks.due("header(" + f + ")", log.header(f), 0);
        }
        checks.unchanged("header", before, log);
    }
}
