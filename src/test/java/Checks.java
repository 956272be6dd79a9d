import java.util.Arrays;
import java.util.List;
import java.util.Map;

/** Counts the answers that are not as due; end() gives the exit code 1 if there was one. */
final class Checks {
    private int made = 0;
    private int wrong = 0;

    void due(String call, long got, long want) {
        made++;
        if (got != want) {
            wrong++;
            System.out.println(call + " answered " + got + ", due is " + want);
        }
    }

    void due(String call, boolean got, boolean want) {
        due(call, got ? 1 : 0, want ? 1 : 0);
    }

    /** Everything that can be read, but for the named values, is as it was in before. */
    void onlyChanged(String call, Map<String, Integer> before, SealedAuditLog log, String... names) {
        made++;
        List<String> allowed = Arrays.asList(names);
        Map<String, Integer> after = State.of(log);
        for (String name : after.keySet()) {
            if (!allowed.contains(name) && !after.get(name).equals(before.get(name))) {
                wrong++;
                System.out.println(call + " changed " + name + " from " + before.get(name) + " to " + after.get(name));
            }
        }
    }

    void unchanged(String call, Map<String, Integer> before, SealedAuditLog log) {
        onlyChanged(call, before, log);
    }

    void bytes(String call, SealedAuditLog log, int from, int... want) {
        for (int k = 0; k < want.length; k++) {
            due(call + ": byte " + (from + k), log.storedByte(from + k), want[k]);
        }
    }

    void header(String call, SealedAuditLog log, int end, int key, int tag, int epoch) {
        due(call + ": hEnd", log.header(SealedAuditLog.H_END), end);
        due(call + ": hKey", log.header(SealedAuditLog.H_KEY), key);
        due(call + ": hTag", log.header(SealedAuditLog.H_TAG), tag);
        due(call + ": hEpoch", log.header(SealedAuditLog.H_EPOCH), epoch);
    }

    void writer(String call, SealedAuditLog log, int end, int tag, int slot, int epoch) {
        due(call + ": wEnd", log.writer(SealedAuditLog.W_END), end);
        due(call + ": wTag", log.writer(SealedAuditLog.W_TAG), tag);
        due(call + ": wSlot", log.writer(SealedAuditLog.W_SLOT), slot);
        due(call + ": wEpoch", log.writer(SealedAuditLog.W_EPOCH), epoch);
    }

    void mode(String call, SealedAuditLog log, int budget, boolean crashed) {
        due(call + ": budget", log.writer(SealedAuditLog.W_BUDGET), budget);
        due(call + ": crashed", log.writer(SealedAuditLog.W_CRASHED), crashed ? 1 : 0);
    }

    void end() {
        System.out.println(made + " checks, " + wrong + " wrong");
        if (wrong != 0) {
            System.exit(1);
        }
    }
}
