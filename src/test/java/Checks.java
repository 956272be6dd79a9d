import java.util.Arrays;
import java.util.List;
import java.util.Map;
import java.util.function.BooleanSupplier;
import java.util.function.IntSupplier;

/** Counts the answers that are not as due; end() gives the exit code 1 if there was one. */
final class Checks {
    private String sentence = "";
    private int sentences = 0;
    private int made = 0;
    private int madeBefore = 0;
    private int wrong = 0;
    private int wrongBefore = 0;

    /** As says(words), of which only the given case is meant here. */
    void says(String words, String here) {
        says(words + " [here: " + here + "]");
    }

    /** The document's words (" .. " is a gap) that the checks from here on stand for; each must have a check. */
    void says(String words) {
        closeSentence();
        sentence = words;
        sentences++;
    }

    private void closeSentence() {
        if (sentences > 0 && made == madeBefore) {
            fault("no check was made");
        }
        madeBefore = made;
        wrongBefore = wrong;
    }

    private void fault(String what) {
        if (wrong == wrongBefore && sentences > 0) {
            System.out.println("The document says: " + sentence);
        }
        wrong++;
        System.out.println(what);
    }

    void due(String call, long got, long want) {
        made++;
        if (got != want) {
            fault(call + " answered " + got + ", due is " + want);
        }
    }

    void due(String call, boolean got, boolean want) {
        due(call, got ? 1 : 0, want ? 1 : 0);
    }

    /** Everything that can be read, but for the named values, is as it was in before. */
    void onlyChanged(String call, Map<String, Integer> before, SealedAuditLog log, String... names) {
        made++;
        List<String> allowed = Arrays.asList(names);
        Map<String, Integer> after = State.of(log);
        for (String name : after.keySet()) {
            if (!allowed.contains(name) && !after.get(name).equals(before.get(name))) {
                fault(call + " changed " + name + " from " + before.get(name) + " to " + after.get(name));
            }
        }
    }

    void unchanged(String call, Map<String, Integer> before, SealedAuditLog log) {
        onlyChanged(call, before, log);
    }

    /** The call gives this answer, and everything that can be read stays as it was. */
    void inert(String call, SealedAuditLog log, IntSupplier made, int want) {
        Map<String, Integer> before = State.of(log);
        due(call, made.getAsInt(), want);
        unchanged(call, before, log);
    }

    void inert(String call, SealedAuditLog log, BooleanSupplier made, boolean want) {
        Map<String, Integer> before = State.of(log);
        due(call, made.getAsBoolean(), want);
        unchanged(call, before, log);
    }

    /** The call gives this answer and changes nothing, whether or not a crash is armed. */
    void refused(String call, SealedAuditLog log, IntSupplier made, int want) {
        int held = log.writer(SealedAuditLog.W_BUDGET);
        for (int budget : new int[] {-1, 0, 5}) {
            log.armCrash(budget);
            inert(call + " with budget " + budget, log, made, want);
        }
        log.armCrash(held);
    }

    void refused(String call, SealedAuditLog log, BooleanSupplier made) {
        refused(call, log, () -> made.getAsBoolean() ? 1 : 0, 0);
    }

    void bytes(String call, SealedAuditLog log, int from, int... want) {
        for (int k = 0; k < want.length; k++) {
            due(call + ": byte " + (from + k), log.storedByte(from + k), want[k]);
        }
    }

    void header(String call, SealedAuditLog log, int end, int key, int tag, int epoch) {
        due(call + ": hEnd", log.header(SealedAuditLog.H_END), end);
        due(call + ": hKey", log.header(SealedAuditLog.H_KEY), key);
        due(call + ": hTag", log.header(SealedAuditLog.H_TAG), tag);
        due(call + ": hEpoch", log.header(SealedAuditLog.H_EPOCH), epoch);
    }

    void writer(String call, SealedAuditLog log, int end, int tag, int slot, int epoch) {
        due(call + ": wEnd", log.writer(SealedAuditLog.W_END), end);
        due(call + ": wTag", log.writer(SealedAuditLog.W_TAG), tag);
        due(call + ": wSlot", log.writer(SealedAuditLog.W_SLOT), slot);
        due(call + ": wEpoch", log.writer(SealedAuditLog.W_EPOCH), epoch);
    }

    void mode(String call, SealedAuditLog log, int budget, boolean crashed) {
        due(call + ": budget", log.writer(SealedAuditLog.W_BUDGET), budget);
        due(call + ": crashed", log.writer(SealedAuditLog.W_CRASHED), crashed ? 1 : 0);
    }

    /** All bytes from..upTo-1 are 0. */
    void zeros(String call, SealedAuditLog log, int from, int upTo) {
        for (int pos = from; pos < upTo; pos++) {
            due(call + ": byte " + pos, log.storedByte(pos), 0);
        }
    }

    void end() {
        closeSentence();
        System.out.println(sentences + " sentences, " + made + " checks, " + wrong + " wrong");
        if (wrong != 0) {
            System.exit(1);
        }
    }
}
