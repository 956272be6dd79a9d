import java.util.LinkedHashMap;
import java.util.Map;

/** Everything that can be read of a log, by name. */
final class State {
    private static final String[] HEADER_FIELDS = {"hEnd", "hKey", "hTag", "hEpoch"};
    private static final String[] WRITER_FIELDS = {
        "wEnd", "wTag", "wSlot", "wEpoch", "budget", "crashed", "started", "capacity", "epochLength"};

    private State() {
    }

    static Map<String, Integer> of(SealedAuditLog log) {
        Map<String, Integer> state = new LinkedHashMap<>();
        for (int pos = 0; pos < 8 * SealedAuditLog.MAX_RECORDS; pos++) {
            state.put("byte " + pos, log.storedByte(pos));
        }
        for (int f = 0; f < HEADER_FIELDS.length; f++) {
            state.put(HEADER_FIELDS[f], log.header(f));
        }
        for (int f = 0; f < WRITER_FIELDS.length; f++) {
            state.put(WRITER_FIELDS[f], log.writer(f));
        }
        state.put("reason", log.verifyReason());
        return state;
    }
}
