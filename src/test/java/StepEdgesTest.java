/** Section 2: a STEP at its edges: who is awake, whose TURN it is, what it is told to be, FAULTS and TRAPS. */
public final class StepEdgesTest {
    public static void main(String[] args) {
        sleepersWakeAtTheirHour();
        sleepersWakeThoughAnotherRuns();
        turnAndLeftAtFirst();
        quantumOneEightAndFifty();
        ringGoesOnBehindTurn();
        turnThatIsNotReady();
        turnAndLeftStayWithoutReady();
        idleIsNoneLive();
        laterIsOneThatSleeps();
        deadIsAllThatWait();
        runsOfStepEdges();
        leftIsOneLessOfEachRan();
        placeIsAskedFirst();
        orderOfFaults();
        faultsTakeNothing();
        trapsTakeEachFault();
        trapIsUsedUp();
        linksReachWhoWaits();
        Check.finish();
    }

    /** "First each TASK that SLEEPS, and whose hour is TIME at most, is READY." */
    private static void sleepersWakeAtTheirHour() {
        TurnTasks t = Check.machine(36, 0, 20, 1);
        int[] xs = {3, 3, 4};
        for (int x : xs) {
            t.spawn(0, x);
        }
        // 1 sleeps until 4, 2 until 6, 0 until 6
        t.run(3);
        int[] hours = {6, 4, 6};
        for (int i = 0; i < 3; i++) {
            Check.due("hour of " + i, t.about(i, 5), hours[i]);
        }
        Check.due("TIME 3: one less than the hour", t.step(), 1);
        Check.due("TIME 4: told after the STEP", t.told(0), 4);
        Check.statesDue("no one is awake between STEPS", t, 5, 5, 5);
        Check.due("TIME 4: the hour", t.step(), 0);
        Check.statesDue("one is awake", t, 5, 1, 5);
        Check.due("TURN is the awake one", t.told(1), 1);
        Check.due("no hour any more", t.about(1, 5), 0);
        Check.load(t, 1, 30, 0, 30, 0);
        t.step();
        Check.statesDue("TIME 5: the others sleep", t, 5, 8, 5);
        Check.due("TIME 6", t.step(), 0);
        Check.statesDue("both are awake, 2 has its TURN", t, 1, 8, 8);
    }

    private static void sleepersWakeThoughAnotherRuns() {
        TurnTasks t = Check.machine(20, 0);
        Check.load(t, 10, 36, 0, 20, 11);
        t.quantum(50);
        t.spawn(0, 0);
        t.spawn(10, 5);
        t.step();
        Check.due("hour", t.about(1, 5), 6);
        t.run(5);
        Check.due("TIME", t.told(0), 6);
        Check.due("SLEEPS until the STEP", t.state(1), 5);
        t.step();
        Check.due("TURN goes on", t.told(1), 0);
        Check.due("READY by that STEP", t.state(1), 1);
        Check.due("LEFT goes on", t.told(2), 44);
    }

    /** "TURN .. (0 at first), LEFT .. (.. 0 at first)": so TASK 1 comes first, and 0 last. */
    private static void turnAndLeftAtFirst() {
        TurnTasks t = Check.machine(20, 0);
        Check.due("TURN at first", t.told(1), 0);
        Check.due("LEFT at first", t.told(2), 0);
        t.spawn(0, 0);
        Check.due("LEFT before a STEP", t.told(2), 0);
        t.step();
        Check.due("alone: itself last", t.told(1), 0);
        Check.due("alone: LEFT", t.told(2), 7);
        TurnTasks two = Check.machine(20, 0);
        two.spawn(0, 0);
        two.spawn(0, 0);
        two.step();
        Check.due("of two: the next one", two.told(1), 1);
    }

    /** "QUANTUM (1 to 50; 8 at first)." */
    private static void quantumOneEightAndFifty() {
        int[] quanta = {1, 8, 50};
        for (int n : quanta) {
            TurnTasks t = Check.machine(20, 0);
            t.spawn(0, 0);
            t.spawn(0, 0);
            if (n != 8) {
                t.quantum(n);
            }
            t.run(n);
            Check.due("QUANTUM " + n + ": TURN of the last", t.told(1), 1);
            Check.due("QUANTUM " + n + ": LEFT of the last", t.told(2), 0);
            t.step();
            Check.due("QUANTUM " + n + ": TURN of the next", t.told(1), 0);
            Check.due("QUANTUM " + n + ": LEFT of the next", t.told(2), n - 1);
        }
        TurnTasks t = Check.machine(20, 0);
        t.spawn(0, 0);
        t.step();
        t.quantum(3);
        Check.due("LEFT stays by a new QUANTUM", t.told(2), 7);
        t.run(7);
        Check.due("until it is 0", t.told(2), 0);
        t.step();
        Check.due("then LEFT is of the new one", t.told(2), 2);
    }

    private static TurnTasks loops(int many) {
        TurnTasks t = Check.machine(20, 0, 32, 0);
        t.quantum(1);
        for (int i = 0; i < many; i++) {
            t.spawn(0, i);
        }
        return t;
    }

    private static void turnsDue(String what, TurnTasks t, int... turns) {
        for (int i = 0; i < turns.length; i++) {
            Check.due(what + ": step " + i, t.step(), 0);
            Check.due(what + ": TURN " + i, t.told(1), turns[i]);
        }
    }

    /** "The next READY one behind it, in a ring by numbers, itself last." */
    private static void ringGoesOnBehindTurn() {
        turnsDue("of 12", loops(12), 1, 2, 3, 4, 5, 6, 7, 8, 9, 10, 11, 0, 1);
        turnsDue("of 3", loops(3), 1, 2, 0, 1, 2, 0);
        turnsDue("of 1", loops(1), 0, 0, 0);
        TurnTasks t = Check.machine(20, 0);
        Check.load(t, 10, 32, 0);
        t.quantum(1);
        int[] places = {10, 10, 10, 10, 0, 0, 10};
        for (int place : places) {
            t.spawn(place, 0);
        }
        // 4 and 5 alone are READY when each has had its TURN
        t.run(7);
        turnsDue("of 4 and 5, around the ring", t, 4, 5, 4, 5, 4);
    }

    /** "If .. TURN is not READY": what was LEFT is not the next one's. */
    private static void turnThatIsNotReady() {
        int[] ops = {30, 46, 32, 36};
        for (int op : ops) {
            TurnTasks t = Check.machine(20, 0);
            Check.load(t, 10, 20, 11, op, 0);
            t.spawn(0, 0);
            t.spawn(10, 900);
            t.run(2);
            Check.due("OP " + op + ": TURN", t.told(1), 1);
            Check.due("OP " + op + ": LEFT", t.told(2), 6);
            t.step();
            Check.due("OP " + op + ": TURN of the next", t.told(1), 0);
            Check.due("OP " + op + ": LEFT of the next", t.told(2), 7);
        }
    }

    /** A STEP without a READY one passes no TURN: what is LEFT is there when TURN is READY again. */
    private static void turnAndLeftStayWithoutReady() {
        TurnTasks t = Check.machine(36, 0, 32, 0, 20, 2);
        t.spawn(0, 2);
        t.step();
        t.run(2);
        Check.due("LATER", t.latest(), 1);
        Check.due("LEFT of LATER", t.told(2), 7);
        t.step();
        Check.due("LEFT of the awake one", t.told(2), 6);
        t.run(5);
        Check.due("DEAD", t.latest(), 3);
        Check.due("LEFT of DEAD", t.told(2), 6);
        Check.due("TURN of DEAD", t.told(1), 0);
        t.put(0, 1);
        t.step();
        Check.due("LEFT of the READY one", t.told(2), 5);
        Check.load(t, 2, 30, 0);
        t.run(9);
        Check.due("IDLE", t.latest(), 2);
        Check.due("LEFT of IDLE", t.told(2), 4);
        TurnTasks none = Check.machine(32, 0, 20, 1);
        none.quantum(1);
        none.spawn(0, 0);
        none.run(2);
        Check.due("LEFT 0 of DEAD", none.told(2), 0);
        none.quantum(5);
        none.put(0, 1);
        none.step();
        Check.due("LEFT of a new QUANTUM", none.told(2), 4);
    }

    /** "IDLE 2: none is LIVE." */
    private static void idleIsNoneLive() {
        TurnTasks t = Check.machine(30, 0, 46, 0);
        Check.due("all are FREE", t.step(), 2);
        t.spawn(0, 0);
        t.step();
        Check.due("one is OVER", t.step(), 2);
        t.spawn(1, 0);
        t.step();
        Check.due("one is FAULTED", t.step(), 2);
        Check.due("latest", t.latest(), 2);
    }

    /** "LATER 1: one SLEEPS", whatever the others wait for. */
    private static void laterIsOneThatSleeps() {
        TurnTasks t = Check.busy();
        Check.load(t, 74, 30, 0);
        t.step();
        Check.statesDue("none is READY", t, 7, 8, 2, 3, 4, 5, 6, 7);
        Check.due("LATER", t.step(), 1);
        Check.due("LATER again", t.step(), 1);
        Check.due("run of LATER ones", t.run(5000), 5000);
        Check.due("latest", t.latest(), 1);
    }

    /** "Else DEAD 3": each way to wait for what does not come. */
    private static void deadIsAllThatWait() {
        int[] ops = {31, 32, 35, 41};
        int[] states = {2, 3, 4, 6};
        for (int i = 0; i < ops.length; i++) {
            TurnTasks t = Check.machine(ops[i], i == 0 ? 1 : 0);
            t.size(1, 1);
            t.put(1, 4);
            t.spawn(0, 1);
            t.spawn(0, 0);
            Check.due("OP " + ops[i] + ": run", t.run(10), 2);
            Check.statesDue("OP " + ops[i], t, states[i], states[i]);
            Check.due("OP " + ops[i] + ": latest", t.latest(), 3);
            Check.due("OP " + ops[i] + ": step", t.step(), 3);
            Check.due("OP " + ops[i] + ": TIME", t.told(0), 2);
            Check.due("OP " + ops[i] + ": LIVE", t.told(4), 2);
        }
    }

    /** "Up to n STEPS, until one is IDLE or DEAD: how many of them were neither." */
    private static void runsOfStepEdges() {
        int[] many = {1, 4, 5, 6};
        int[] dues = {1, 4, 5, 5};
        int[] latest = {0, 1, 0, 2};
        for (int i = 0; i < many.length; i++) {
            // RAN, LATER three times, RAN with a FAULT, IDLE
            TurnTasks t = Check.machine(36, 0, 46, 0);
            t.spawn(0, 3);
            Check.due("run(" + many[i] + ")", t.run(many[i]), dues[i]);
            Check.due("run(" + many[i] + "): latest", t.latest(), latest[i]);
        }
        Check.due("run of IDLE", new TurnTasks().run(5000), 0);
        TurnTasks t = Check.machine(20, 0);
        t.spawn(0, 3);
        Check.due("run(4999)", t.run(4999), 4999);
        Check.due("run(5000)", t.run(5000), 5000);
        Check.due("run(5001)", t.run(5001), -2);
        Check.due("TIME", t.told(0), 9999);
    }

    /** "RAN 0: LEFT is one less", also of an OP that has a FAULT or waits. */
    private static void leftIsOneLessOfEachRan() {
        int[] ops = {0, 30, 32, 46};
        for (int op : ops) {
            TurnTasks t = Check.machine(op, 0);
            t.spawn(0, 3);
            Check.due("OP " + op, t.step(), 0);
            Check.due("LEFT by OP " + op, t.told(2), 7);
        }
    }

    /** "1 PLACE is not 0 to 511, or there is no such OP." */
    private static void placeIsAskedFirst() {
        TurnTasks t = new TurnTasks();
        Check.load(t, 511, 2, 0);
        t.spawn(511, 3);
        t.step();
        Check.stackDue("place 511", t, 0);
        Check.due("step at 512", t.step(), 0);
        Check.faultDue("PLACE 512", t, 0, 1);
        Check.due("its PLACE stays", t.about(0, 0), 512);
        int[] noOps = {46, 100, 255};
        for (int op : noOps) {
            // ahead of FAULT 2 with an empty STACK, of FAULT 3 with a full one
            Check.faultDue("OP " + op, stepped(0, 0, op, 0), 0, 1);
            Check.faultDue("OP " + op, stepped(24, 0, op, -1), 0, 1);
        }
        Check.due("OP 45 is one", stepped(24, 0, 45, 0).told(7), 0);
        Check.due("OP 0 is one", stepped(24, 0, 0, 0).told(7), 0);
    }

    private static TurnTasks stepped(int depth, int x, int op, int arg) {
        TurnTasks t = Check.before(Check.manyInts(depth, x), op, arg);
        t.step();
        return t;
    }

    /** "FAULTS of an OP, in this order: 1, 2, 4, 5, 6, 7, 3": those that meet in one OP. */
    private static void orderOfFaults() {
        int[][] twoAhead = {{9, 0}, {10, 0}, {21, 512}, {25, 64}, {26, 0}, {27, 0}, {28, -1}, {31, 6}, {33, 6},
            {40, 0}, {41, 0}, {43, 0}, {45, 0}};
        for (int[] op : twoAhead) {
            Check.faultDue("2 first, OP " + op[0], stepped(0, 0, op[0], op[1]), 0, 2);
        }
        Check.faultDue("2 ahead of 4, OP 9", stepped(1, 0, 9, 0), 0, 2);
        Check.faultDue("2 ahead of 4, OP 10", stepped(1, 0, 10, 0), 0, 2);
        Check.faultDue("2 ahead of 5, OP 27", stepped(1, 64, 27, 0), 0, 2);
        int[][] fiveAhead = {{24, 64}, {24, -1}};
        for (int[] op : fiveAhead) {
            Check.faultDue("5 ahead of 3, OP " + op[0], stepped(24, 0, op[0], op[1]), 0, 5);
        }
        int[][] sixAhead = {{32, 6}, {34, 6}, {34, -1}, {44, 6}, {35, 6}, {35, 48}};
        for (int[] op : sixAhead) {
            Check.faultDue("6 ahead of 3, OP " + op[0], stepped(24, 0, op[0], op[1]), 0, 6);
        }
        TurnTasks calls = Check.machine(22, 0);
        calls.spawn(0, 1);
        calls.run(12);
        Check.load(calls, 0, 22, -1);
        calls.step();
        Check.faultDue("5 ahead of 3, OP 22", calls, 0, 5);
        TurnTasks over = Check.machine(30, 0);
        over.spawn(0, 1);
        over.step();
        Check.load(over, 5, 43, 0);
        over.spawn(5, 0);
        over.step();
        Check.faultDue("7 ahead of 8, OP 43 to itself", over, 0, 7);
    }

    /** "It takes nothing then": no int, no RETURN, no int of a CHANNEL, no new TASK, no MEMORY. */
    private static void faultsTakeNothing() {
        int[][] wrong = {{3, 24, 1}, {3, 24, 3}, {3, 24, 5}, {3, 24, 24}, {3, 24, 32}, {3, 23, 34}, {3, 23, 35},
            {3, 24, 37}, {3, 24, 38}, {3, 24, 44}, {4, 3, 9}, {4, 3, 10}, {7, 3, 40}, {7, 3, 41}, {7, 3, 43}};
        for (int[] w : wrong) {
            int depth = w[1];
            TurnTasks t = Check.before(Check.manyInts(depth, 0), w[2], 0);
            t.put(0, 8);
            t.step();
            String what = "FAULT " + w[0] + " of OP " + w[2];
            Check.faultDue(what, t, 0, w[0]);
            Check.stackDue(what, t, 0, Check.manyInts(depth, 0));
            Check.due(what + ": place", t.about(0, 0), 100);
            Check.channelDue(what, t, 0, 8);
            Check.due(what + ": FAULTS", t.told(7), 1);
        }
        TurnTasks spawns = stepped(2, 5, 28, 512);
        Check.faultDue("FAULT 5 of OP 28", spawns, 0, 5);
        Check.due("none is spawned", spawns.told(6), 1);
        Check.stackDue("FAULT 5 of OP 28", spawns, 0, 1000, 5);
        TurnTasks sends = stepped(2, 5, 31, 6);
        Check.stackDue("FAULT 6 of OP 31", sends, 0, 1000, 5);
        TurnTasks stores = stepped(2, 64, 27, 0);
        Check.stackDue("FAULT 5 of OP 27", stores, 0, 1000, 64);
    }

    /** "With a TRAP the TASK goes on there, READY: its STACK is the FAULT alone, RETURNS and TRAP are none." */
    private static void trapsTakeEachFault() {
        int[][] wrong = {{1, 46, 0}, {2, 45, 0}, {3, 22, 100}, {4, 9, 0}, {5, 24, 64}, {6, 44, 6}, {7, 40, 0},
            {8, 43, 0}};
        for (int[] w : wrong) {
            // TASK 1 is FAULTED; TASK 0 has a LINK to 2, twelve RETURNS, a TRAP at 300, and then the OP
            TurnTasks t = Check.machine(43, 0, 42, 300, 22, 2);
            Check.load(t, 10, 46, 0);
            Check.load(t, 20, 32, 0);
            t.spawn(0, 2);
            t.spawn(10, 0);
            t.spawn(20, 0);
            t.run(2 + 2 + 12);
            Check.due("RETURNS", t.about(0, 2), 12);
            int x = w[0] == 8 ? 1 : w[0] == 2 ? -1 : 0;
            Check.load(t, 2, 1, 50, 1, x, w[1], w[2]);
            t.run(2);
            Check.stackDue("before FAULT " + w[0], t, 0, 50, x);
            Check.due("step of FAULT " + w[0], t.step(), 0);
            Check.due("FAULT " + w[0] + ": READY", t.state(0), 1);
            Check.stackDue("FAULT " + w[0] + " alone", t, 0, w[0]);
            int[] dues = {300, 1, 0, -1, 4, 0, 0};
            for (int what = 0; what < dues.length; what++) {
                Check.due("FAULT " + w[0] + ": about " + what, t.about(0, what), dues[what]);
            }
            Check.due("FAULT " + w[0] + ": FAULTS", t.told(7), 2);
        }
    }

    /** "RETURNS and TRAP are none": a second FAULT finds no TRAP, unless there is a new one. */
    private static void trapIsUsedUp() {
        TurnTasks t = Check.machine(42, 5, 46, 0);
        Check.load(t, 5, 47, 0);
        t.spawn(0, 3);
        t.run(3);
        Check.faultDue("the second FAULT", t, 0, 1);
        Check.due("its PLACE", t.about(0, 0), 5);
        Check.due("both are counted", t.told(7), 2);
        TurnTasks anew = Check.machine(42, 0, 46, 0);
        anew.spawn(0, 3);
        anew.run(21);
        Check.due("a new TRAP each time", anew.state(0), 1);
        Check.due("FAULTS", anew.told(7), 10);
    }

    /** "Each LIVE TASK that has a LINK to it has FAULT 8: with a TRAP likewise (whatever it waited for)." */
    private static void linksReachWhoWaits() {
        int[][] waits = {{31, 1, 2}, {32, 0, 3}, {35, 0, 4}, {36, 0, 5}, {41, 0, 6}, {20, 14, 1}};
        for (int[] w : waits) {
            for (int trap = -1; trap <= 300; trap += 301) {
                linkReaches(w, trap);
            }
        }
    }

    private static void linkReaches(int[] w, int trap) {
        // TASK 0 falls when it has an int of CHANNEL 5; TASK 1 has a LINK to it and waits; TASK 2 is waited for
        TurnTasks t = Check.machine(32, 5, 46, 0);
        Check.load(t, 10, 42, trap, 43, 0, 1, 2, 0, 0, w[0], w[1]);
        Check.load(t, 20, 32, 4);
        t.size(1, 1);
        t.put(1, 0);
        t.quantum(50);
        t.spawn(0, 0);
        t.spawn(10, 0);
        t.spawn(20, 0);
        t.run(7);
        String what = "OP " + w[0] + ", TRAP " + trap;
        Check.due(what + ": before", t.state(1), w[2]);
        t.put(5, 1);
        t.quantum(1);
        t.run(w[0] == 20 ? 47 : 2);
        Check.faultDue(what + ": falls", t, 0, 1);
        Check.due(what + ": state", t.state(1), trap == -1 ? 8 : 1);
        Check.due(what + ": outcome", t.about(1, 6), trap == -1 ? -8 : 0);
        Check.due(what + ": hour", t.about(1, 5), 0);
        Check.due(what + ": FAULTS", t.told(7), 2);
        if (trap != -1) {
            Check.stackDue(what, t, 1, 8);
            Check.due(what + ": place", t.about(1, 0), trap);
        }
    }
}
