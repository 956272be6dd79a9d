import java.util.ArrayList;
import java.util.List;
import java.util.Random;

/** Promises 1 to 13: long mixed runs, after each call of which the log must read like the model. */
public final class ModelTest {
    private static final int RUNS = 1500;
    private static final int CALLS = 250;
    private static final int[] ODD = {Integer.MIN_VALUE, -2, -1, 0, 255, 256, 65535, 65536, Integer.MAX_VALUE};

    private final Random random;
    private final SealedAuditLog log;
    private final Model model;
    private String call = "";
    private int got = 0;
    private int due = 0;

    private ModelTest(int seed) {
        random = new Random(seed);
        int records = number(2, 34);
        int epochLength = number(1, 9);
        log = new SealedAuditLog(records, epochLength);
        model = new Model(records, epochLength);
    }

    public static void main(String[] args) {
        int wrong = 0;
        for (int seed = 0; seed < RUNS && wrong < 5; seed++) {
            wrong += new ModelTest(seed).run(seed) ? 0 : 1;
        }
        System.out.println(RUNS + " runs, " + wrong + " wrong");
        if (wrong != 0) {
            System.exit(1);
        }
    }

    private boolean run(int seed) {
        for (int n = 0; n < CALLS; n++) {
            callOne();
            List<Integer> state = new ArrayList<>(State.of(log).values());
            if (got != due || !state.equals(model.state())) {
                System.out.println("run " + seed + ", call " + n + ": " + call + " answered " + got
                    + ", due is " + due + (got == due ? ", but the state differs" : ""));
                return false;
            }
        }
        return true;
    }

    /** Mostly low..high, now and then far outside. */
    private int number(int low, int high) {
        if (random.nextInt(40) == 0) {
            return ODD[random.nextInt(ODD.length)];
        }
        return low + random.nextInt(high - low + 1);
    }

    private void callOne() {
        int records = model.wEnd / 8;
        int pick = random.nextInt(100);
        if (pick < 60) {
            int kind = number(1, 254);
            int payload = number(0, 65535);
            said("append(" + kind + ", " + payload + ")", log.append(kind, payload), model.append(kind, payload));
        } else if (pick < 66) {
            int steps = number(-1, 40);
            log.armCrash(steps);
            model.armCrash(steps);
            said("armCrash(" + steps + ")", 0, 0);
        } else if (pick < 68) {
            said("crash()", log.crash(), model.crash());
        } else if (pick < 76) {
            said("recover()", log.recover(), model.recover());
        } else if (pick < 86) {
            said("verify()", log.verify(), model.verify());
        } else if (pick < 88) {
            int key = random.nextInt();
            said("start(" + key + ")", log.start(key), model.start(key));
        } else if (pick < 90) {
            int pos = number(0, Math.max(1, model.wEnd));
            int value = number(0, 255);
            said("tamper(" + pos + ", " + value + ")", log.tamper(pos, value), model.tamper(pos, value));
        } else if (pick < 97) {
            int index = number(Math.max(0, records - 2), Math.max(1, records));
            said("dropRecord(" + index + ")", log.dropRecord(index), model.dropRecord(index));
        } else {
            int i = number(0, Math.max(1, records));
            int j = number(0, Math.max(1, records));
            said("swapRecords(" + i + ", " + j + ")", log.swapRecords(i, j), model.swapRecords(i, j));
        }
    }

    private void said(String what, int answer, int dueAnswer) {
        call = what;
        got = answer;
        due = dueAnswer;
    }

    private void said(String what, boolean answer, boolean dueAnswer) {
        said(what, answer ? 1 : 0, dueAnswer ? 1 : 0);
    }
}
