/** What the tests share: counting wrong answers, and putting programs into a machine. */
final class Check {
    private static int wrong = 0;

    private Check() {
    }

    static void due(String what, long got, long want) {
        if (got != want) {
            wrong++;
            System.out.println(what + " answered " + got + ", due is " + want);
        }
    }

    static void finish() {
        if (wrong != 0) {
            System.out.println(wrong + " answers are not as due");
            System.exit(1);
        }
    }

    /** Puts words into CODE from a place on: OP and ARG by turns. */
    static void load(TurnTasks machine, int place, int... opsAndArgs) {
        for (int i = 0; i + 1 < opsAndArgs.length; i += 2) {
            machine.poke(place + i / 2, machine.word(opsAndArgs[i], opsAndArgs[i + 1]));
        }
    }

    static TurnTasks machine(int... opsAndArgs) {
        TurnTasks machine = new TurnTasks();
        load(machine, 0, opsAndArgs);
        return machine;
    }

    static void stackDue(String what, TurnTasks machine, int task, int... ints) {
        due(what + ": how many ints", machine.about(task, 1), ints.length);
        for (int i = 0; i < ints.length; i++) {
            due(what + ": int " + i, machine.stack(task, i), ints[i]);
        }
    }

    static void faultDue(String what, TurnTasks machine, int task, int fault) {
        due(what + ": state", machine.state(task), 8);
        due(what + ": fault", machine.about(task, 6), -fault);
    }

    static void recordDue(String what, TurnTasks machine, int... ints) {
        due(what + ": how many printed", machine.told(3), ints.length);
        for (int i = 0; i < ints.length; i++) {
            due(what + ": record " + i, machine.record(i), ints[i]);
        }
    }
}
