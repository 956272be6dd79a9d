public final class SealedAuditLog {
    public static final int MIN_RECORDS = 4;
    public static final int MAX_RECORDS = 32;
    public static final int MIN_EPOCH = 2;
    public static final int MAX_EPOCH = 8;
    public static final int KIND_CHECKPOINT = 255;

    public static final int ERR_CRASHED = -1;
    public static final int ERR_NOT_STARTED = -2;
    public static final int ERR_KIND = -3;
    public static final int ERR_PAYLOAD = -4;
    public static final int ERR_FULL = -5;
    public static final int ERR_LOST = -6;
    public static final int ERR_NOT_CRASHED = -7;

    public static final int V_ACCEPT = -1;
    public static final int V_CRASHED = -2;
    public static final int V_NOT_STARTED = -3;

    public static final int R_NONE = 0;
    public static final int R_KIND = 1;
    public static final int R_ORDER = 2;
    public static final int R_SEQ = 3;
    public static final int R_EPOCH = 4;
    public static final int R_TAG = 5;

    public static final int H_END = 0;
    public static final int H_KEY = 1;
    public static final int H_TAG = 2;
    public static final int H_EPOCH = 3;

    public static final int W_END = 0;
    public static final int W_TAG = 1;
    public static final int W_SLOT = 2;
    public static final int W_EPOCH = 3;
    public static final int W_BUDGET = 4;
    public static final int W_CRASHED = 5;
    public static final int W_STARTED = 6;
    public static final int W_CAPACITY = 7;
    public static final int W_EPOCH_LENGTH = 8;

    private static final int RECORD_BYTES = 8;
    private static final int MAX_BYTES = RECORD_BYTES * MAX_RECORDS;
    private static final int MAX_PAYLOAD = 0xFFFF;
    private static final int DISARMED = -1;
    private static final int NOT_REFUSED = 0;

    // Only the first capacity bytes are in use. hEnd and wEnd are always
    // multiples of RECORD_BYTES in 0..capacity, so every record that lies
    // before one of them can be read without a further test.
    private final byte[] log = new byte[MAX_BYTES];
    private final int capacity;
    private final int epochLength;

    private int hEnd = 0;
    private int hKey = 0;
    private int hTag = 0;
    private int hEpoch = 0;

    private int wEnd = 0;
    private int wTag = 0;
    private int wSlot = 0;
    private int wEpoch = 0;

    private boolean started = false;
    private boolean crashed = false;
    private int budget = DISARMED;
    private int vKey = 0;
    private int reason = R_NONE;

    public SealedAuditLog(int records, int epochLength) {
        this.capacity = RECORD_BYTES * clamp(records, MIN_RECORDS, MAX_RECORDS);
        this.epochLength = clamp(epochLength, MIN_EPOCH, MAX_EPOCH);
    }

    public boolean start(int key) {
        if (started) {
            return false;
        }
        started = true;
        vKey = key;
        hKey = key;
        hEnd = 0;
        hTag = 0;
        hEpoch = 0;
        return true;
    }

    public int append(int kind, int payload) {
        int refusal = appendRefusal(kind, payload);
        if (refusal != NOT_REFUSED) {
            return refusal;
        }
        int index = wEnd / RECORD_BYTES;
        if (!seal(kind, payload)) {
            loseWriter();
            return ERR_LOST;
        }
        wSlot = wSlot + 1;
        if (wSlot == epochLength && !completeCheckpoint()) {
            loseWriter();
        }
        return index;
    }

    public void armCrash(int steps) {
        budget = steps >= 0 ? steps : DISARMED;
    }

    public boolean crash() {
        if (!started || crashed) {
            return false;
        }
        loseWriter();
        return true;
    }

    public int recover() {
        if (!crashed) {
            return ERR_NOT_CRASHED;
        }
        // With the budget disarmed, the steps of completeCheckpoint below
        // can't crash.
        budget = DISARMED;
        acceptStoredRecords();
        zeroTail();
        crashed = false;
        if (wSlot == epochLength && wEnd + RECORD_BYTES <= capacity) {
            completeCheckpoint();
        }
        return wEnd / RECORD_BYTES;
    }

    public int verify() {
        if (!started) {
            return V_NOT_STARTED;
        }
        if (crashed) {
            return V_CRASHED;
        }
        int records = wEnd / RECORD_BYTES;
        int key = vKey;
        int prev = 0;
        int slot = 0;
        int epoch = 0;
        reason = R_NONE;
        for (int i = 0; i < records; i++) {
            reason = recordFault(i, slot, epoch, key, prev);
            if (reason != R_NONE) {
                return i;
            }
            prev = storedTag(i);
            if (slot == epochLength) {
                key = ratchet(key);
                epoch = epoch + 1;
                slot = 0;
            } else {
                slot = slot + 1;
            }
        }
        return V_ACCEPT;
    }

    public int verifyReason() {
        return reason;
    }

    public boolean tamper(int pos, int value) {
        if (!isOpen() || pos < 0 || pos >= wEnd || value < 0 || value > 0xFF) {
            return false;
        }
        log[pos] = (byte) value;
        return true;
    }

    public boolean dropRecord(int index) {
        if (!isOpen() || !isWritten(index)) {
            return false;
        }
        int last = wEnd - RECORD_BYTES;
        for (int q = RECORD_BYTES * index; q < last; q++) {
            log[q] = log[q + RECORD_BYTES];
        }
        for (int q = last; q < wEnd; q++) {
            log[q] = 0;
        }
        wEnd = last;
        return true;
    }

    public boolean swapRecords(int i, int j) {
        if (!isOpen() || !isWritten(i) || !isWritten(j) || i == j) {
            return false;
        }
        for (int k = 0; k < RECORD_BYTES; k++) {
            int atI = RECORD_BYTES * i + k;
            int atJ = RECORD_BYTES * j + k;
            byte held = log[atI];
            log[atI] = log[atJ];
            log[atJ] = held;
        }
        return true;
    }

    public int storedByte(int pos) {
        if (pos < 0 || pos >= capacity) {
            return -1;
        }
        return byteAt(pos);
    }

    public int header(int f) {
        switch (f) {
            case H_END:
                return hEnd;
            case H_KEY:
                return hKey;
            case H_TAG:
                return hTag;
            case H_EPOCH:
                return hEpoch;
            default:
                return 0;
        }
    }

    public int writer(int f) {
        switch (f) {
            case W_END:
                return wEnd;
            case W_TAG:
                return wTag;
            case W_SLOT:
                return wSlot;
            case W_EPOCH:
                return wEpoch;
            case W_BUDGET:
                return budget;
            case W_CRASHED:
                return crashed ? 1 : 0;
            case W_STARTED:
                return started ? 1 : 0;
            case W_CAPACITY:
                return capacity;
            case W_EPOCH_LENGTH:
                return epochLength;
            default:
                return 0;
        }
    }

    private static int clamp(int value, int low, int high) {
        if (value < low) {
            return low;
        }
        return value > high ? high : value;
    }

    private static int mix(int value) {
        int x = value * 0x9E3779B1;
        x = x ^ (x >>> 16);
        x = x * 0x85EBCA6B;
        return x ^ (x >>> 13);
    }

    private static int ratchet(int key) {
        return mix(key ^ 0x6A09E667) ^ key;
    }

    private static int tag(int key, int prev, int b0, int b1, int b2, int b3) {
        int s = key ^ prev;
        s = mix(s ^ b0);
        s = mix(s ^ b1);
        s = mix(s ^ b2);
        return mix(s ^ b3);
    }

    private boolean isOpen() {
        return started && !crashed;
    }

    private boolean isWritten(int index) {
        return index >= 0 && index < wEnd / RECORD_BYTES;
    }

    private int byteAt(int pos) {
        return log[pos] & 0xFF;
    }

    private int storedTag(int index) {
        int p = RECORD_BYTES * index;
        return byteAt(p + 4) << 24 | byteAt(p + 5) << 16 | byteAt(p + 6) << 8 | byteAt(p + 7);
    }

    private int appendRefusal(int kind, int payload) {
        if (!started) {
            return ERR_NOT_STARTED;
        }
        if (crashed) {
            return ERR_CRASHED;
        }
        if (kind < 1 || kind >= KIND_CHECKPOINT) {
            return ERR_KIND;
        }
        if (payload < 0 || payload > MAX_PAYLOAD) {
            return ERR_PAYLOAD;
        }
        // The record that fills an epoch must leave room for its checkpoint.
        int need = wSlot + 1 >= epochLength ? 2 * RECORD_BYTES : RECORD_BYTES;
        if (wSlot == epochLength || wEnd + need > capacity) {
            return ERR_FULL;
        }
        return NOT_REFUSED;
    }

    private void loseWriter() {
        crashed = true;
        budget = DISARMED;
        wEnd = 0;
        wTag = 0;
        wSlot = 0;
        wEpoch = 0;
    }

    // False means that the writer must crash instead of doing the step.
    private boolean takeStep() {
        if (budget == 0) {
            return false;
        }
        if (budget > 0) {
            budget = budget - 1;
        }
        return true;
    }

    private boolean writeStep(int pos, int value) {
        if (!takeStep()) {
            return false;
        }
        log[pos] = (byte) value;
        return true;
    }

    // The kind byte comes last, so that a torn record still reads as none.
    private boolean seal(int kind, int payload) {
        int p = wEnd;
        int sequence = (p / RECORD_BYTES) & 0xFF;
        int high = (payload >>> 8) & 0xFF;
        int low = payload & 0xFF;
        int t = tag(hKey, wTag, kind, sequence, high, low);
        boolean whole = writeStep(p + 1, sequence)
            && writeStep(p + 2, high)
            && writeStep(p + 3, low)
            && writeStep(p + 4, t >>> 24)
            && writeStep(p + 5, t >>> 16)
            && writeStep(p + 6, t >>> 8)
            && writeStep(p + 7, t)
            && writeStep(p, kind);
        if (whole) {
            wEnd = p + RECORD_BYTES;
            wTag = t;
        }
        return whole;
    }

    private boolean completeCheckpoint() {
        boolean whole = seal(KIND_CHECKPOINT, wEpoch & MAX_PAYLOAD) && takeStep();
        if (whole) {
            closeEpoch();
        }
        return whole;
    }

    // One step: the old key is gone as soon as the header tells of the
    // checkpoint.
    private void closeEpoch() {
        hEnd = wEnd;
        hTag = wTag;
        hKey = ratchet(hKey);
        hEpoch = wEpoch + 1;
        wEpoch = wEpoch + 1;
        wSlot = 0;
    }

    // Bytes before hEnd stay unread: their key is gone.
    private void acceptStoredRecords() {
        wEnd = hEnd;
        wTag = hTag;
        wSlot = 0;
        wEpoch = hEpoch;
        int records = capacity / RECORD_BYTES;
        for (int i = hEnd / RECORD_BYTES; i < records; i++) {
            int fault = recordFault(i, wSlot, wEpoch, hKey, wTag);
            if (fault != R_NONE) {
                break;
            }
            wEnd = RECORD_BYTES * (i + 1);
            wTag = storedTag(i);
            if (wSlot == epochLength) {
                closeEpoch();
            } else {
                wSlot = wSlot + 1;
            }
        }
    }

    private void zeroTail() {
        for (int q = wEnd; q < capacity; q++) {
            log[q] = 0;
        }
    }

    // The verifier and recover judge a record alike; they differ only in
    // where the key and the place within the epoch come from.
    private int recordFault(int index, int slot, int epoch, int key, int prev) {
        int p = RECORD_BYTES * index;
        int b0 = byteAt(p);
        int b1 = byteAt(p + 1);
        int b2 = byteAt(p + 2);
        int b3 = byteAt(p + 3);
        boolean checkpointDue = slot == epochLength;
        if (b0 == 0) {
            return R_KIND;
        }
        if (checkpointDue != (b0 == KIND_CHECKPOINT)) {
            return R_ORDER;
        }
        if (b1 != (index & 0xFF)) {
            return R_SEQ;
        }
        if (checkpointDue && b2 * 256 + b3 != (epoch & MAX_PAYLOAD)) {
            return R_EPOCH;
        }
        int due = tag(key, prev, b0, b1, b2, b3);
        return storedTag(index) == due ? R_NONE : R_TAG;
    }
}
