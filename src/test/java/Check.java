/** What the tests share: counting wrong answers, and putting programs into a machine. */
final class Check {
    private static int wrong = 0;

    private Check() {
    }

    static void due(String what, long got, long want) {
        if (got != want) {
            wrong++;
            System.out.println(what + " answered " + got + ", due is " + want);
        }
    }

    static void sameDue(String what, String got, String want) {
        if (!got.equals(want)) {
            wrong++;
            System.out.println(what + " is\n  " + got + ", due is\n  " + want);
        }
    }

    static void finish() {
        if (wrong != 0) {
            System.out.println(wrong + " answers are not as due");
            System.exit(1);
        }
    }

    static int[] ints(int... all) {
        return all;
    }

    /** So many ints, of which x is the last and thus the uppermost; the others are 1000, 1001 and on. */
    static int[] manyInts(int many, int x) {
        int[] all = new int[many];
        for (int i = 0; i < many; i++) {
            all[i] = i == many - 1 ? x : 1000 + i;
        }
        return all;
    }

    /** Puts words into CODE from a place on: OP and ARG by turns. */
    static void load(TurnTasks machine, int place, int... opsAndArgs) {
        for (int i = 0; i + 1 < opsAndArgs.length; i += 2) {
            machine.poke(place + i / 2, machine.word(opsAndArgs[i], opsAndArgs[i + 1]));
        }
    }

    static TurnTasks machine(int... opsAndArgs) {
        TurnTasks machine = new TurnTasks();
        load(machine, 0, opsAndArgs);
        return machine;
    }

    /** TASK 0 at place 100 with these ints, before the OP there is done; TIME is 2 and one more for each int. */
    static TurnTasks before(int[] stack, int op, int arg) {
        TurnTasks machine = machine(2, 0);
        machine.spawn(0, 0);
        machine.step();
        for (int i = 0; i < stack.length; i++) {
            load(machine, 1 + i, 32, 5);
            machine.put(5, stack[i]);
            machine.step();
        }
        load(machine, 1 + stack.length, 20, 100);
        load(machine, 100, op, arg);
        machine.step();
        return machine;
    }

    /**
     * Something of all there is: TASK 0 is OVER, 1 FAULTED, 2 SENDS (to CHANNEL 1, which is full), 3 RECEIVES
     * (of 0), 4 CHOOSES (of 2, 3), 5 SLEEPS, 6 WAITS (for 5), 7 is READY and has its TURN, 8 to 11 are FREE.
     */
    static TurnTasks busy() {
        TurnTasks machine = machine(30, 0);
        load(machine, 10, 46, 0);
        load(machine, 20, 31, 1);
        load(machine, 30, 32, 0);
        load(machine, 40, 35, 2 + 8 * 3);
        load(machine, 50, 36, 0);
        load(machine, 60, 41, 0);
        load(machine, 70, 3, 0, 39, 0, 3, 0, 25, 7, 20, 74);
        machine.size(1, 2);
        machine.put(1, 81);
        machine.put(1, 82);
        int[] ints = {5, 6, 7, 8, 9, 1000000, 5, 77};
        for (int i = 0; i < ints.length; i++) {
            machine.spawn(10 * i, ints[i]);
        }
        machine.run(16);
        return machine;
    }

    static void stackDue(String what, TurnTasks machine, int task, int... ints) {
        due(what + ": how many ints", machine.about(task, 1), ints.length);
        for (int i = 0; i < ints.length; i++) {
            due(what + ": int " + i, machine.stack(task, i), ints[i]);
        }
    }

    static void statesDue(String what, TurnTasks machine, int... states) {
        for (int i = 0; i < states.length; i++) {
            due(what + ": state of " + i, machine.state(i), states[i]);
        }
    }

    static void channelDue(String what, TurnTasks machine, int channel, int... ints) {
        due(what + ": held", machine.held(channel), ints.length);
        for (int i = 0; i < ints.length; i++) {
            due(what + ": of the CHANNEL " + i, machine.channel(channel, i), ints[i]);
        }
    }

    static void faultDue(String what, TurnTasks machine, int task, int fault) {
        due(what + ": state", machine.state(task), 8);
        due(what + ": fault", machine.about(task, 6), -fault);
    }

    static void recordDue(String what, TurnTasks machine, int... ints) {
        due(what + ": how many printed", machine.told(3), ints.length);
        for (int i = 0; i < ints.length; i++) {
            due(what + ": record " + i, machine.record(i), ints[i]);
        }
    }
}
