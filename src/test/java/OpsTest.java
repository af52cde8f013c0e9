/** The OPS 0 to 45 (Terms 3) that do not wait: what each leaves on the STACK and where it goes. */
public final class OpsTest {
    private static final int MIN = Integer.MIN_VALUE, MAX = Integer.MAX_VALUE;

    public static void main(String[] args) {
        stackOps();
        arithmetic();
        bitsAndComparisons();
        goes();
        calls();
        memoryOps();
        spawning();
        channelOps();
        ownOps();
        picks();
        Check.finish();
    }

    private static int[] ints(int... all) {
        return Check.ints(all);
    }

    private static TurnTasks leaves(int[] stack, int op, int arg, int... after) {
        TurnTasks t = Check.before(stack, op, arg);
        String what = "OP " + op + " ARG " + arg;
        Check.due(what + " step", t.step(), 0);
        Check.due(what + " state", t.state(0), 1);
        Check.stackDue(what, t, 0, after);
        return t;
    }

    /** An OP that goes on at the next PLACE. */
    private static TurnTasks goesOn(int[] stack, int op, int arg, int... after) {
        TurnTasks t = leaves(stack, op, arg, after);
        Check.due("OP " + op + " goes on", t.about(0, 0), 101);
        return t;
    }

    private static void stackOps() {
        goesOn(ints(), 0, 5);
        goesOn(ints(4), 1, 8388607, 4, 8388607);
        goesOn(ints(4), 1, -8388608, 4, -8388608);
        goesOn(ints(4, 5), 2, 0, 4);
        goesOn(ints(4, 5), 3, 0, 4, 5, 5);
        goesOn(ints(4, 5, 6), 4, 0, 4, 6, 5);
        goesOn(ints(4, 5, 6), 5, 0, 4, 5, 6, 5);
    }

    private static void arithmetic() {
        goesOn(ints(9, 7, 2), 6, 0, 9, 9);
        goesOn(ints(MAX, 1), 6, 0, MIN);
        goesOn(ints(9, 7, 2), 7, 0, 9, 5);
        goesOn(ints(MIN, 1), 7, 0, MAX);
        goesOn(ints(9, 7, 2), 8, 0, 9, 14);
        goesOn(ints(65536, 65537), 8, 0, 65536);
        goesOn(ints(9, 7, 2), 9, 0, 9, 3);
        goesOn(ints(-7, 2), 9, 0, -3);
        goesOn(ints(7, -2), 9, 0, -3);
        goesOn(ints(MIN, -1), 9, 0, MIN);
        goesOn(ints(9, 7, 4), 10, 0, 9, 3);
        goesOn(ints(-7, 4), 10, 0, -3);
        goesOn(ints(7, -4), 10, 0, 3);
        goesOn(ints(MIN, -1), 10, 0, 0);
        goesOn(ints(9, 7), 11, 0, 9, -7);
        goesOn(ints(MIN), 11, 0, MIN);
    }

    private static void bitsAndComparisons() {
        goesOn(ints(1, 12, 10), 12, 0, 1, 8);
        goesOn(ints(1, 12, 10), 13, 0, 1, 14);
        goesOn(ints(1, 12, 10), 14, 0, 1, 6);
        goesOn(ints(3, 4), 15, 0, 48);
        goesOn(ints(3, 33), 15, 0, 6);
        goesOn(ints(3, -1), 15, 0, MIN);
        goesOn(ints(-48, 4), 16, 0, -3);
        goesOn(ints(-48, 36), 16, 0, -3);
        goesOn(ints(-1, -1), 16, 0, -1);
        goesOn(ints(2, 3), 17, 0, 1);
        goesOn(ints(3, 3), 17, 0, 0);
        goesOn(ints(MIN, MAX), 17, 0, 1);
        goesOn(ints(MAX, MIN), 17, 0, 0);
        goesOn(ints(3, 3), 18, 0, 1);
        goesOn(ints(3, 4), 18, 0, 0);
        goesOn(ints(5, 0), 19, 0, 5, 1);
        goesOn(ints(5, MIN), 19, 0, 5, 0);
    }

    private static void placeDue(TurnTasks t, String what, int place) {
        Check.due(what + " goes to", t.about(0, 0), place);
    }

    private static void goes() {
        placeDue(leaves(ints(3), 20, 511, 3), "20", 511);
        placeDue(leaves(ints(3), 20, 0, 3), "20", 0);
        placeDue(leaves(ints(3, 0), 21, 511, 3), "21 of 0", 511);
        placeDue(leaves(ints(3, 1), 21, 511, 3), "21 of 1", 101);
        TurnTasks t = leaves(ints(), 20, 511);
        t.step();
        placeDue(t, "511 goes on", 512);
        Check.due("nothing is wrong yet", t.state(0), 1);
        t.step();
        Check.faultDue("there is no place 512", t, 0, 1);
        placeDue(t, "it stays", 512);
    }

    private static void calls() {
        TurnTasks t = leaves(ints(3), 22, 200, 3);
        placeDue(t, "22", 200);
        Check.due("a RETURN", t.about(0, 2), 1);
        Check.load(t, 200, 22, 300, 23, 0);
        Check.load(t, 300, 23, 0);
        t.step();
        Check.due("two RETURNS", t.about(0, 2), 2);
        t.step();
        placeDue(t, "23, the latest", 201);
        Check.due("one RETURN", t.about(0, 2), 1);
        t.step();
        placeDue(t, "23, the first", 101);
        Check.due("no RETURN", t.about(0, 2), 0);
        Check.due("READY", t.state(0), 1);
        // the place behind the last one may be a RETURN; it is asked when it is done
        TurnTasks end = new TurnTasks();
        Check.load(end, 511, 22, 10);
        Check.load(end, 10, 23, 0);
        end.spawn(511, 0);
        end.run(2);
        placeDue(end, "a RETURN to 512", 512);
        Check.due("READY at 512", end.state(0), 1);
        end.step();
        Check.faultDue("512 is asked", end, 0, 1);
    }

    private static void memoryOps() {
        TurnTasks t = goesOn(ints(3, 8), 25, 63, 3);
        Check.due("25 into MEMORY", t.memory(63), 8);
        Check.load(t, 101, 24, 63, 25, 0, 1, 63, 26, 0);
        t.step();
        Check.stackDue("24", t, 0, 3, 8);
        t.run(3);
        Check.stackDue("26", t, 0, 3, 8);
        Check.due("25 at 0", t.memory(0), 8);
        TurnTasks at = goesOn(ints(3, 77, 5), 27, 0, 3);
        Check.due("27 into MEMORY", at.memory(5), 77);
    }

    private static void spawning() {
        TurnTasks t = goesOn(ints(3, 8), 28, 40, 3, 1);
        Check.due("28: state", t.state(1), 1);
        Check.due("28: place", t.about(1, 0), 40);
        Check.stackDue("28: its int", t, 1, 8);
        Check.due("28: spawned ever", t.told(6), 2);
        TurnTasks full = Check.before(ints(3, 8), 28, 40);
        for (int i = 1; i < 12; i++) {
            full.spawn(300, 0);
        }
        Check.load(full, 300, 32, 0);
        full.run(12);
        Check.stackDue("28, all LIVE", full, 0, 3, -1);
        Check.due("28, all LIVE: spawned ever", full.told(6), 12);
    }

    private static void channelOps() {
        TurnTasks t = goesOn(ints(3, 8), 31, 2, 3);
        Check.due("31 holds", t.held(2), 1);
        Check.due("31 first", t.channel(2, 0), 8);
        Check.load(t, 101, 44, 2, 32, 2, 44, 2);
        t.run(3);
        Check.stackDue("44, 32, 44", t, 0, 3, 1, 8, 0);
        TurnTasks sent = goesOn(ints(3, 8), 33, 2, 3, 1);
        Check.due("33 first", sent.channel(2, 0), 8);
        TurnTasks full = Check.before(ints(3, 8), 33, 2);
        full.size(2, 1);
        full.put(2, 5);
        full.step();
        Check.stackDue("33, full", full, 0, 3, 0);
        Check.due("33, full: held", full.held(2), 1);
        Check.due("33, full: goes on", full.about(0, 0), 101);
        goesOn(ints(3), 34, 2, 3, 0);
        TurnTasks got = Check.before(ints(3), 34, 2);
        got.put(2, 5);
        got.put(2, 6);
        got.step();
        Check.stackDue("34", got, 0, 3, 5, 1);
        Check.due("34: the first goes", got.channel(2, 0), 6);
        choices();
    }

    private static void choices() {
        TurnTasks t = Check.before(ints(3), 35, 1 + 8 * 4);
        t.put(4, 44);
        t.put(1, 11);
        t.step();
        Check.stackDue("35 of c", t, 0, 3, 11, 0);
        Check.due("35 of c: d stays", t.held(4), 1);
        Check.load(t, 101, 35, 1 + 8 * 4);
        t.step();
        Check.stackDue("35 of d", t, 0, 3, 11, 0, 44, 1);
        Check.due("35 of d: held", t.held(4), 0);
        TurnTasks edge = Check.before(ints(), 35, 5 + 8 * 5);
        edge.put(5, 9);
        edge.step();
        Check.stackDue("35 of 5 and 5", edge, 0, 9, 0);
    }

    private static void ownOps() {
        TurnTasks t = goesOn(ints(3), 29, 0, 3);
        Check.due("29: LEFT", t.told(2), 0);
        TurnTasks over = Check.before(ints(3, -9), 30, 0);
        over.step();
        Check.due("30: OVER", over.state(0), 7);
        Check.due("30: CODE", over.about(0, 6), -9);
        Check.due("30: place", over.about(0, 0), 101);
        Check.stackDue("30: its STACK", over, 0, 3);
        goesOn(ints(3), 37, 0, 3, 0);
        goesOn(ints(3), 38, 0, 3, 3);
        Check.recordDue("39", goesOn(ints(3, MIN), 39, 0, 3), MIN);
        Check.due("42", goesOn(ints(), 42, 511).about(0, 3), 511);
        Check.due("42, 0", goesOn(ints(), 42, 0).about(0, 3), 0);
        TurnTasks trap = goesOn(ints(), 42, 7);
        Check.load(trap, 101, 42, -1);
        trap.step();
        Check.due("42, -1", trap.about(0, 3), -1);
        TurnTasks number = Check.machine(37, 0);
        number.spawn(50, 0);
        number.spawn(0, 8);
        number.step();
        Check.stackDue("37 of TASK 1", number, 1, 8, 1);
    }

    private static void picks() {
        goesOn(ints(5, 6, 7, 0), 45, 0, 5, 6, 7, 7);
        goesOn(ints(5, 6, 7, 1), 45, 0, 5, 6, 7, 6);
        goesOn(ints(5, 6, 7, 2), 45, 0, 5, 6, 7, 5);
    }
}
