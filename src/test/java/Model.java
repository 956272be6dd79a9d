import java.util.ArrayList;
import java.util.List;

/**
 * The document again, kept apart from the program: append makes the whole list of its steps first
 * and then does as many as the budget lets it.
 */
final class Model {
    final int capacity;
    final int epochLength;
    final int[] bytes = new int[256];
    int hEnd;
    int hKey;
    int hTag;
    int hEpoch;
    int wEnd;
    int wTag;
    int wSlot;
    int wEpoch;
    int vKey;
    int reason;
    int budget = -1;
    boolean started;
    boolean crashed;

    Model(int records, int epochs) {
        capacity = 8 * Math.min(32, Math.max(4, records));
        epochLength = Math.min(8, Math.max(2, epochs));
    }

    static int mix(int x) {
        x *= 0x9E3779B1;
        x ^= x >>> 16;
        x *= 0x85EBCA6B;
        x ^= x >>> 13;
        return x;
    }

    static int ratchet(int k) {
        return mix(k ^ 0x6A09E667) ^ k;
    }

    static int tag(int k, int prev, int... b) {
        int s = k ^ prev;
        for (int x : b) {
            s = mix(s ^ x);
        }
        return s;
    }

    boolean start(int key) {
        if (started) {
            return false;
        }
        started = true;
        vKey = key;
        hKey = key;
        return true;
    }

    int append(int kind, int payload) {
        if (!started) {
            return -2;
        }
        if (crashed) {
            return -1;
        }
        if (kind < 1 || kind > 254) {
            return -3;
        }
        if (payload < 0 || payload > 65535) {
            return -4;
        }
        boolean closes = wSlot + 1 >= epochLength;
        if (wSlot == epochLength || wEnd + (closes ? 16 : 8) > capacity) {
            return -5;
        }
        int index = wEnd / 8;
        int dataTag = tag(hKey, wTag, kind, index, payload >> 8, payload & 255);
        List<int[]> steps = new ArrayList<>(sealing(wEnd, kind, payload, dataTag));
        int lastTag = dataTag;
        if (closes) {
            int epoch = wEpoch & 0xFFFF;
            lastTag = tag(hKey, dataTag, 255, index + 1, epoch >> 8, epoch & 255);
            steps.addAll(sealing(wEnd + 8, 255, epoch, lastTag));
        }
        int all = steps.size() + (closes ? 1 : 0);
        int done = budget < 0 ? all : Math.min(budget, all);
        for (int n = 0; n < Math.min(done, steps.size()); n++) {
            bytes[steps.get(n)[0]] = steps.get(n)[1];
        }
        if (done < all) {
            crash();
            return done < 8 ? -6 : index;
        }
        if (budget >= 0) {
            budget -= all;
        }
        wEnd += closes ? 16 : 8;
        wTag = lastTag;
        wSlot++;
        if (closes) {
            wEpoch++;
            wSlot = 0;
            hEnd = wEnd;
            hTag = wTag;
            hKey = ratchet(hKey);
            hEpoch = wEpoch;
        }
        return index;
    }

    private static List<int[]> sealing(int p, int kind, int payload, int t) {
        int[] values = {p / 8, payload >> 8, payload & 255, t >>> 24, t >>> 16 & 255, t >>> 8 & 255, t & 255};
        List<int[]> steps = new ArrayList<>();
        for (int k = 0; k < 7; k++) {
            steps.add(new int[] {p + 1 + k, values[k]});
        }
        steps.add(new int[] {p, kind});
        return steps;
    }

    void armCrash(int steps) {
        budget = Math.max(-1, steps);
    }

    boolean crash() {
        if (!started || crashed) {
            return false;
        }
        crashed = true;
        budget = -1;
        wEnd = 0;
        wTag = 0;
        wSlot = 0;
        wEpoch = 0;
        return true;
    }

    int recover() {
        if (!crashed) {
            return -7;
        }
        budget = -1;
        int p = hEnd;
        int prev = hTag;
        int e = hEpoch;
        int s = 0;
        while (p + 8 <= capacity && accepts(p, prev, e, s)) {
            prev = tagAt(p);
            p += 8;
            s++;
            if (bytes[p - 8] == 255) {
                e++;
                s = 0;
                hEnd = p;
                hTag = prev;
                hKey = ratchet(hKey);
                hEpoch = e;
            }
        }
        java.util.Arrays.fill(bytes, p, capacity, 0);
        crashed = false;
        wEnd = p;
        wTag = prev;
        wSlot = s;
        wEpoch = e;
        if (s == epochLength && p + 8 <= capacity) {
            int t = tag(hKey, prev, 255, p / 8, e >> 8 & 255, e & 255);
            for (int[] step : sealing(p, 255, e & 0xFFFF, t)) {
                bytes[step[0]] = step[1];
            }
            wEnd = p + 8;
            wTag = t;
            wSlot = 0;
            wEpoch = e + 1;
            hEnd = wEnd;
            hTag = t;
            hKey = ratchet(hKey);
            hEpoch = wEpoch;
        }
        return wEnd / 8;
    }

    private boolean accepts(int p, int prev, int e, int s) {
        int kind = bytes[p];
        boolean checkpoint = kind == 255;
        return kind != 0
            && checkpoint == (s == epochLength)
            && bytes[p + 1] == p / 8
            && (!checkpoint || bytes[p + 2] * 256 + bytes[p + 3] == (e & 0xFFFF))
            && tagAt(p) == tag(hKey, prev, kind, bytes[p + 1], bytes[p + 2], bytes[p + 3]);
    }

    private int tagAt(int p) {
        return bytes[p + 4] << 24 | bytes[p + 5] << 16 | bytes[p + 6] << 8 | bytes[p + 7];
    }

    int verify() {
        if (!started) {
            return -3;
        }
        if (crashed) {
            return -2;
        }
        int key = vKey;
        int prev = 0;
        for (int i = 0; i < wEnd / 8; i++) {
            reason = fault(i, key, prev);
            if (reason != 0) {
                return i;
            }
            prev = tagAt(8 * i);
            if (i % (epochLength + 1) == epochLength) {
                key = ratchet(key);
            }
        }
        reason = 0;
        return -1;
    }

    private int fault(int i, int key, int prev) {
        int p = 8 * i;
        boolean last = i % (epochLength + 1) == epochLength;
        if (bytes[p] == 0) {
            return 1;
        }
        if (last != (bytes[p] == 255)) {
            return 2;
        }
        if (bytes[p + 1] != i) {
            return 3;
        }
        if (last && bytes[p + 2] * 256 + bytes[p + 3] != i / (epochLength + 1)) {
            return 4;
        }
        return tagAt(p) == tag(key, prev, bytes[p], bytes[p + 1], bytes[p + 2], bytes[p + 3]) ? 0 : 5;
    }

    boolean tamper(int pos, int value) {
        if (!started || crashed || pos < 0 || pos >= wEnd || value < 0 || value > 255) {
            return false;
        }
        bytes[pos] = value;
        return true;
    }

    boolean dropRecord(int index) {
        if (!started || crashed || index < 0 || index >= wEnd / 8) {
            return false;
        }
        System.arraycopy(bytes, 8 * index + 8, bytes, 8 * index, wEnd - 8 * index - 8);
        java.util.Arrays.fill(bytes, wEnd - 8, wEnd, 0);
        wEnd -= 8;
        return true;
    }

    boolean swapRecords(int i, int j) {
        int records = wEnd / 8;
        if (!started || crashed || i < 0 || i >= records || j < 0 || j >= records || i == j) {
            return false;
        }
        int[] held = java.util.Arrays.copyOfRange(bytes, 8 * i, 8 * i + 8);
        System.arraycopy(bytes, 8 * j, bytes, 8 * i, 8);
        System.arraycopy(held, 0, bytes, 8 * j, 8);
        return true;
    }

    /** What State reads of a log, in the same order. */
    List<Integer> state() {
        List<Integer> state = new ArrayList<>();
        for (int pos = 0; pos < 256; pos++) {
            state.add(pos < capacity ? bytes[pos] : -1);
        }
        state.addAll(List.of(hEnd, hKey, hTag, hEpoch, wEnd, wTag, wSlot, wEpoch, budget));
        state.addAll(List.of(crashed ? 1 : 0, started ? 1 : 0, capacity, epochLength, reason));
        return state;
    }
}
