import java.util.Map;

/** Promise 4: armCrash sets the budget in any state and nothing else. */
public final class Promise04ArmCrashTest {
    public static void main(String[] args) {
        Checks checks = new Checks();
        setsTheBudget(checks);
        disarms(checks);
        inAnyState(checks);
        armedBeforeStart(checks);
        nextStepsAreDone(checks);
        zeroCrashesTheNextStep(checks);
        refusedAppendTakesNoStep(checks);
        otherCallsTakeNoStep(checks);
        anotherArmCrashEndsIt(checks);
        crashEndsIt(checks);
        recoverEndsIt(checks);
        refusedCallsDoNotEndIt(checks);
        crashesOnce(checks);
        checks.end();
    }

    private static void armed(Checks checks, String state, SealedAuditLog log, int steps, int due) {
        String call = "armCrash(" + steps + "), " + state;
        Map<String, Integer> before = State.of(log);
        log.armCrash(steps);
        checks.onlyChanged(call, before, log, "budget");
        checks.due(call + ": budget", log.writer(SealedAuditLog.W_BUDGET), due);
    }

    private static void setsTheBudget(Checks checks) {
        checks.says("if steps >= 0, budget = steps");
        SealedAuditLog log = Logs.filled(8, 2, 5, 3);
        for (int steps : new int[] {0, 1, 2, 17, 1000, Integer.MAX_VALUE, 0}) {
            armed(checks, "started", log, steps, steps);
        }
    }

    private static void disarms(Checks checks) {
        checks.says("otherwise budget = -1 (disarmed)");
        SealedAuditLog log = Logs.filled(8, 2, 5, 3);
        for (int steps : new int[] {-1, -2, -17, Integer.MIN_VALUE, Integer.MIN_VALUE + 1}) {
            armed(checks, "disarmed", log, steps, -1);
            armed(checks, "started", log, 3, 3);
            armed(checks, "armed", log, steps, -1);
        }
        log.armCrash(0);
        log.armCrash(-5);
        checks.due("append", log.append(1, 1), 4);
    }

    private static void inAnyState(Checks checks) {
        checks.says("Allowed in any state, including before start and while crashed. Nothing else changes.");
        Logs.inEveryState(8, 2, 5).forEach((state, log) -> {
            armed(checks, state, log, 0, 0);
            armed(checks, state, log, Integer.MAX_VALUE, Integer.MAX_VALUE);
            armed(checks, state, log, -1, -1);
            armed(checks, state, log, 7, 7);
            armed(checks, state, log, Integer.MIN_VALUE, -1);
        });
    }

    private static void armedBeforeStart(Checks checks) {
        checks.says("With budget = n >= 0, the next n steps of append calls are done", "armed before start");
        SealedAuditLog log = new SealedAuditLog(8, 2);
        log.armCrash(8);
        log.append(1, 1);
        log.start(5);
        checks.due("append", log.append(1, 1), 0);
        checks.mode("append", log, 0, false);
        checks.due("append", log.append(2, 2), SealedAuditLog.ERR_LOST);
    }

    private static void nextStepsAreDone(Checks checks) {
        checks.says("With budget = n >= 0, the next n steps of append calls are done and a crash happens "
            + "instead of the step after them");
        // With E = 2, the calls take 8, 17, 8, 17 steps.
        int[] ends = {8, 25, 33, 50};
        for (int steps = 0; steps <= 50; steps++) {
            SealedAuditLog log = Logs.started(8, 2, 5);
            log.armCrash(steps);
            int calls = 0;
            while (calls < 4 && ends[calls] <= steps) {
                checks.due("append " + calls + " of " + steps + " steps", log.append(1, 1) >= 0, true);
                checks.mode("append " + calls + " of " + steps + " steps", log, steps - ends[calls], false);
                calls++;
            }
            if (calls < 4) {
                log.append(1, 1);
                checks.mode("the append that crashes after " + steps + " steps", log, -1, true);
            }
        }
    }

    private static void zeroCrashesTheNextStep(Checks checks) {
        checks.says("budget 0 makes the very next append step crash");
        for (int count = 0; count <= 3; count++) {
            SealedAuditLog log = Logs.filled(8, 2, 5, count);
            log.armCrash(0);
            Map<String, Integer> before = State.of(log);
            checks.due("append", log.append(1, 1), SealedAuditLog.ERR_LOST);
            checks.mode("append", log, -1, true);
            checks.onlyChanged("append", before, log, "wEnd", "wTag", "wSlot", "wEpoch", "budget", "crashed");
        }
    }

    private static void refusedAppendTakesNoStep(Checks checks) {
        checks.says("the next n steps of append calls", "a refused append has none");
        SealedAuditLog log = Logs.filled(4, 2, 5, 2);
        log.armCrash(0);
        checks.due("wrong kind", log.append(0, 0), SealedAuditLog.ERR_KIND);
        checks.due("wrong payload", log.append(1, -1), SealedAuditLog.ERR_PAYLOAD);
        checks.mode("refused", log, 0, false);
        log.armCrash(8);
        checks.due("append", log.append(1, 1), 3);
        checks.due("full", log.append(1, 1), SealedAuditLog.ERR_FULL);
        checks.mode("refused", log, 0, false);
    }

    private static void otherCallsTakeNoStep(Checks checks) {
        checks.says("the next n steps of append calls", "other calls have none");
        SealedAuditLog log = Logs.filled(8, 2, 5, 3);
        log.armCrash(0);
        log.start(6);
        log.verify();
        log.verifyReason();
        log.tamper(0, 0);
        log.swapRecords(0, 1);
        log.dropRecord(3);
        log.storedByte(0);
        log.header(0);
        log.writer(0);
        checks.mode("other calls", log, 0, false);
    }

    private static void anotherArmCrashEndsIt(Checks checks) {
        checks.says("unless budget is changed first by another armCrash");
        SealedAuditLog log = Logs.filled(8, 2, 5, 1);
        log.armCrash(2);
        log.armCrash(17);
        checks.due("the greater one counts", log.append(1, 1), 1);
        checks.mode("the greater one counts", log, 0, false);
        log.armCrash(17);
        log.armCrash(0);
        checks.due("the smaller one counts", log.append(1, 1), SealedAuditLog.ERR_LOST);
    }

    private static void crashEndsIt(Checks checks) {
        checks.says("unless budget is changed first .. by a successful crash()");
        for (int steps : new int[] {0, 4, Integer.MAX_VALUE}) {
            SealedAuditLog log = Logs.filled(8, 2, 5, 3);
            log.armCrash(steps);
            checks.due("crash()", log.crash(), true);
            checks.mode("crash()", log, -1, true);
        }
    }

    private static void recoverEndsIt(Checks checks) {
        checks.says("unless budget is changed first .. by a recover() that is not refused");
        for (int steps : new int[] {0, 4, Integer.MAX_VALUE}) {
            SealedAuditLog log = Logs.crashed(8, 2, 5, 3);
            log.armCrash(steps);
            checks.mode("armed while crashed", log, steps, true);
            checks.due("recover()", log.recover(), 4);
            checks.mode("recover()", log, -1, false);
            checks.due("append", log.append(1, 1), 4);
        }
    }

    private static void refusedCallsDoNotEndIt(Checks checks) {
        checks.says("by a successful crash(), or by a recover() that is not refused",
            "refused ones leave the budget");
        SealedAuditLog fresh = new SealedAuditLog(8, 2);
        fresh.armCrash(4);
        fresh.crash();
        fresh.recover();
        checks.mode("not started", fresh, 4, false);
        SealedAuditLog crashed = Logs.crashed(8, 2, 5, 3);
        crashed.armCrash(0);
        checks.due("crash()", crashed.crash(), false);
        checks.mode("crash() while crashed", crashed, 0, true);
        SealedAuditLog open = Logs.filled(8, 2, 5, 3);
        open.armCrash(0);
        checks.due("recover()", open.recover(), SealedAuditLog.ERR_NOT_CRASHED);
        checks.mode("recover() while not crashed", open, 0, false);
        checks.due("append", open.append(1, 1), SealedAuditLog.ERR_LOST);
    }

    private static void crashesOnce(Checks checks) {
        checks.says("a crash happens instead of the step after them", "once: the crash disarms");
        SealedAuditLog log = Logs.torn(8, 2, 5, 1, 3);
        checks.mode("crashed", log, -1, true);
        log.recover();
        for (int n = 0; n < 3; n++) {
            checks.due("append", log.append(1, 1) >= 0, true);
        }
        checks.mode("appends after it", log, -1, false);
    }
}
