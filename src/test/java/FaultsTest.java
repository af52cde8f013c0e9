/** FAULTS 1 to 7 of the OPS: their edges, their order, that they take nothing, and TRAPS (Terms 2). */
public final class FaultsTest {
    /** How many ints each OP 0 to 45 needs. */
    private static final int[] NEEDS = {
        0, 0, 1, 1, 2, 2, 2, 2, 2, 2, 2, 1, 2, 2, 2, 2, 2, 2, 2, 1,
        0, 1, 0, 0, 0, 1, 1, 2, 1, 0, 1, 1, 0, 1, 0, 0, 1, 0, 0, 1, 1, 1, 0, 1, 0, 2,
    };

    public static void main(String[] args) {
        noOps();
        tooFew();
        tooMany();
        tooManyReturns();
        byZero();
        noPlace();
        noChannel();
        noTask();
        order();
        traps();
        Check.finish();
    }

    /** TASK 0 has so many ints, the uppermost is x; the next OP is at 100. */
    private static TurnTasks before(int depth, int x, int op, int arg) {
        return Check.before(Check.manyInts(depth, x), op, arg);
    }

    private static void faults(int depth, int x, int op, int arg, int fault) {
        faultsIn(before(depth, x, op, arg), depth, x, op, fault);
    }

    private static void faultsIn(TurnTasks t, int depth, int x, int op, int fault) {
        String what = "OP " + op + " with " + depth + " ints";
        Check.due(what + " step", t.step(), 0);
        Check.faultDue(what, t, 0, fault);
        Check.due(what + " stays", t.about(0, 0), 100);
        Check.due(what + " FAULTS", t.told(7), 1);
        Check.due(what + " takes nothing", t.about(0, 1), depth);
        Check.due(what + " uppermost", t.stack(0, depth - 1), depth == 0 ? 0 : x);
    }

    private static void fine(int depth, int x, int op, int arg, int after) {
        TurnTasks t = before(depth, x, op, arg);
        String what = "OP " + op + " ARG " + arg + " with " + depth + " ints";
        t.step();
        Check.due(what + " has no FAULT", t.told(7), 0);
        Check.due(what + " has ints", t.about(0, 1), after);
    }

    private static void noOps() {
        faults(3, 0, 46, 0, 1);
        faults(0, 0, 128, 0, 1);
        faults(3, 0, 255, -1, 1);
        fine(2, 0, 45, 0, 2);
    }

    private static void tooFew() {
        for (int op = 0; op <= 45; op++) {
            for (int depth = 0; depth < NEEDS[op]; depth++) {
                faults(depth, 0, op, 0, 2);
            }
        }
        for (int op = 0; op <= 45; op++) {
            TurnTasks enough = before(NEEDS[op], 0, op, 0);
            enough.step();
            Check.due("OP " + op + " has ints enough", enough.about(0, 6) == -2 && op != 23 ? 1 : 0, 0);
        }
        faults(3, 5, 23, 0, 2);
        faults(4, -1, 45, 0, 2);
        faults(4, 3, 45, 0, 2);
        faults(1, 0, 45, 0, 2);
        fine(4, 2, 45, 0, 4);
        TurnTasks least = new TurnTasks();
        least.put(0, Integer.MIN_VALUE);
        Check.load(least, 0, 32, 0, 45, 0);
        least.spawn(0, 3);
        least.run(2);
        Check.faultDue("45 by the least int", least, 0, 2);
        least.put(0, Integer.MAX_VALUE);
        least.spawn(0, 3);
        least.run(2);
        Check.faultDue("45 by the greatest int", least, 0, 2);
    }

    private static void tooMany() {
        int[] comeByOne = {1, 3, 5, 24, 34, 37, 38, 44};
        for (int op : comeByOne) {
            fine(23, 0, op, 0, 24);
            faults(24, 0, op, 0, 3);
        }
        int[] stay = {0, 4, 11, 19, 20, 22, 26, 28, 29, 33, 42, 45};
        for (int op : stay) {
            fine(24, 0, op, 0, 24);
        }
        tooManyOfChannels(32, 1);
        tooManyOfChannels(34, 2);
        tooManyOfChannels(35, 2);
        returnsAndWaitsWithFullStack();
        choicesWithFullStack();
        TurnTasks receives = before(24, 0, 32, 0);
        receives.step();
        Check.due("32 waits with a full STACK", receives.state(0), 3);
        TurnTasks chooses = before(24, 0, 35, 0);
        chooses.step();
        Check.due("35 waits with a full STACK", chooses.state(0), 4);
        chooses.put(0, 3);
        chooses.step();
        Check.faultDue("35 then comes", chooses, 0, 3);
        Check.due("35 took nothing", chooses.held(0), 1);
    }

    private static void tooManyOfChannels(int op, int come) {
        TurnTasks fits = before(24 - come, 0, op, 0);
        fits.put(0, 5);
        fits.step();
        Check.due("OP " + op + " fits", fits.about(0, 1), 24);
        Check.due("OP " + op + " fits, READY", fits.state(0), 1);
        TurnTasks t = before(25 - come, 8, op, 0);
        t.put(0, 5);
        faultsIn(t, 25 - come, 8, op, 3);
        Check.due("OP " + op + " takes nothing of the CHANNEL", t.held(0), 1);
    }

    private static void returnsAndWaitsWithFullStack() {
        TurnTasks empty = before(0, 0, 22, 200);
        Check.load(empty, 200, 23, 0);
        empty.run(2);
        Check.due("23 with an empty STACK", empty.about(0, 0), 101);
        TurnTasks returns = before(24, 0, 22, 200);
        Check.load(returns, 200, 23, 0);
        returns.run(2);
        Check.due("23 with a full STACK", returns.about(0, 0), 101);
        Check.due("23 has no FAULT", returns.told(7), 0);
        TurnTasks waits = before(24, 1, 41, 0);
        Check.load(waits, 200, 30, 0);
        waits.spawn(200, 7);
        waits.run(9);
        Check.due("41 with a full STACK", waits.stack(0, 23), 7);
        Check.due("41 has 24 ints", waits.about(0, 1), 24);
    }

    private static void choicesWithFullStack() {
        int[] fullOnes = {2, 3};
        for (int channel : fullOnes) {
            TurnTasks t = before(23, 8, 35, 2 + 8 * 3);
            t.put(channel, 5);
            faultsIn(t, 23, 8, 35, 3);
            Check.due("35 takes nothing of CHANNEL " + channel, t.held(channel), 1);
            TurnTasks fits = before(22, 8, 35, 2 + 8 * 3);
            fits.put(channel, 5);
            fits.step();
            Check.due("35 fits, of CHANNEL " + channel, fits.about(0, 1), 24);
        }
        TurnTasks waits = before(23, 8, 35, 2 + 8 * 3);
        waits.put(0, 5);
        waits.step();
        Check.due("35 waits all the same", waits.state(0), 4);
    }

    private static void tooManyReturns() {
        TurnTasks t = Check.machine(22, 0);
        t.spawn(0, 1);
        t.run(12);
        Check.due("twelve RETURNS", t.about(0, 2), 12);
        Check.due("READY with twelve", t.state(0), 1);
        t.step();
        Check.faultDue("thirteen RETURNS", t, 0, 3);
        Check.due("RETURNS as then", t.about(0, 2), 12);
    }

    private static void byZero() {
        faults(2, 0, 9, 0, 4);
        faults(2, 0, 10, 0, 4);
    }

    private static void noPlace() {
        int[] goes = {20, 21, 22, 28, 42};
        int[] wrong = {512, -2, 8388607, -8388608};
        for (int op : goes) {
            for (int arg : wrong) {
                faults(2, 1, op, arg, 5);
            }
        }
        faults(2, 1, 20, -1, 5);
        faults(2, 1, 21, -1, 5);
        faults(2, 1, 22, -1, 5);
        faults(2, 1, 28, -1, 5);
        faults(2, 0, 24, 64, 5);
        faults(2, 0, 24, -1, 5);
        faults(2, 0, 25, 64, 5);
        faults(2, 0, 25, -1, 5);
        faults(2, 64, 26, 0, 5);
        faults(2, -1, 26, 0, 5);
        faults(2, 64, 27, 0, 5);
        faults(2, -1, 27, 0, 5);
        TurnTasks spawns = before(1, 0, 28, 512);
        spawns.step();
        Check.due("none is spawned", spawns.told(6), 1);
    }

    private static void noChannel() {
        int[] ops = {31, 32, 33, 34, 44};
        for (int op : ops) {
            faults(2, 1, op, 6, 6);
            faults(2, 1, op, -1, 6);
        }
        int[] wrongPairs = {6, 7, 8 * 6, 8 * 7, 5 + 8 * 6, 6 + 8 * 5, 64, -1, -8, -8388608, 8388607};
        for (int arg : wrongPairs) {
            faults(2, 1, 35, arg, 6);
        }
    }

    private static void noTask() {
        int[] ops = {40, 41, 43};
        for (int op : ops) {
            faults(2, 12, op, 0, 7);
            faults(2, -1, op, 0, 7);
            faults(2, 0, op, 0, 7);
            faults(2, 5, op, 0, 7);
        }
    }

    private static void order() {
        faults(1, 0, 9, 0, 2);
        faults(0, 0, 21, 512, 2);
        faults(0, 0, 25, 64, 2);
        faults(0, 0, 28, 512, 2);
        faults(0, 0, 31, 6, 2);
        faults(0, 0, 41, 0, 2);
        faults(24, 0, 24, 64, 5);
        faults(24, 0, 44, 6, 6);
        faults(24, 0, 34, 6, 6);
        TurnTasks t = Check.machine(22, 0);
        t.spawn(0, 1);
        t.run(12);
        Check.load(t, 0, 22, 512);
        t.step();
        Check.faultDue("22: the place ahead of RETURNS", t, 0, 5);
    }

    private static void traps() {
        TurnTasks t = Check.machine(42, 50, 22, 2, 1, 5, 2, 0, 2, 0, 2, 0);
        t.spawn(0, 9);
        t.run(5);
        Check.due("no FAULT yet", t.told(7), 0);
        Check.due("step of the FAULT", t.step(), 0);
        int[] dues = {50, 1, 0, -1, 0, 0, 0};
        for (int what = 0; what < 7; what++) {
            Check.due("trapped: about " + what, t.about(0, what), dues[what]);
        }
        Check.due("trapped: READY", t.state(0), 1);
        Check.due("trapped: the FAULT", t.stack(0, 0), 2);
        Check.due("trapped: FAULTS", t.told(7), 1);
        Check.due("trapped: LEFT", t.told(2), 2);
        Check.load(t, 50, 46, 0);
        t.step();
        Check.faultDue("no TRAP any more", t, 0, 1);
        Check.due("FAULTS both", t.told(7), 2);
        // a TRAP takes a wrong PLACE, too
        TurnTasks end = Check.machine(42, 3, 20, 511, 0, 0, 39, 0);
        end.spawn(0, 9);
        end.run(5);
        Check.recordDue("FAULT 1 in a TRAP", end, 1);
    }
}
