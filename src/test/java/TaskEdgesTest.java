/** Section 3, OPS 36 to 43: sleeps, prints, kills, waits for one another, LINKS, at their edges. */
public final class TaskEdgesTest {
    private static final int MIN = Integer.MIN_VALUE, MAX = Integer.MAX_VALUE;

    public static void main(String[] args) {
        sleepsBelowOne();
        sleepsAtMostAMillion();
        sleepCountsFromThisStep();
        numbersOfTasks();
        timeOfTheStep();
        printsAnyInt();
        whichTasks();
        firstAndLastTask();
        killsWhoIsLive();
        killsNoOneElse();
        killIsNotTrapped();
        waitsForWhoIsLive();
        waitsNotForOthers();
        waitersAreWoken();
        waitersAreNotWoken();
        linksAreBits();
        linkToFaulted();
        linkToFaultedGoesOn();
        faultsByLinks();
        Check.finish();
    }

    private static TurnTasks slept(int x) {
        TurnTasks t = Check.machine(36, 0, 20, 1);
        t.spawn(0, x);
        t.step();
        return t;
    }

    /** "(x below 1: READY)." */
    private static void sleepsBelowOne() {
        int[] none = {0, -1, -1000000, MIN};
        for (int x : none) {
            TurnTasks t = slept(x);
            Check.due("READY by " + x, t.state(0), 1);
            Check.due("no hour by " + x, t.about(0, 5), 0);
            Check.due("LEFT by " + x, t.told(2), 7);
            Check.due("place by " + x, t.about(0, 0), 1);
            Check.stackDue("x is taken", t, 0);
            Check.due("goes on by " + x, t.step(), 0);
        }
        TurnTasks one = slept(1);
        Check.due("SLEEPS by 1", one.state(0), 5);
        Check.due("hour by 1", one.about(0, 5), 2);
        Check.stackDue("x is taken", one, 0);
        Check.due("place by 1", one.about(0, 0), 1);
        Check.due("TIME 1", one.step(), 1);
        Check.due("TIME 2", one.step(), 0);
    }

    /** "SLEEPS until TIME is x (1000000 at most) more." */
    private static void sleepsAtMostAMillion() {
        int[] xs = {999999, 1000000, 1000001, MAX};
        int[] hours = {1000000, 1000001, 1000001, 1000001};
        for (int i = 0; i < xs.length; i++) {
            Check.due("hour by " + xs[i], slept(xs[i]).about(0, 5), hours[i]);
        }
        TurnTasks t = slept(MAX);
        for (int i = 0; i < 200; i++) {
            Check.due("LATER", t.run(5000), 5000);
        }
        Check.due("TIME", t.told(0), 1000001);
        Check.due("SLEEPS until the STEP", t.state(0), 5);
        Check.due("awake at last", t.step(), 0);
        Check.due("READY", t.state(0), 1);
    }

    /** "More than with this STEP done." */
    private static void sleepCountsFromThisStep() {
        TurnTasks t = Check.machine(0, 0, 0, 0, 36, 0);
        t.spawn(0, 4);
        t.run(3);
        Check.due("TIME", t.told(0), 3);
        Check.due("hour", t.about(0, 5), 7);
        Check.due("LATER ones", t.run(4), 4);
        Check.due("the last is LATER", t.latest(), 1);
        Check.due("then it is awake", t.step(), 0);
    }

    /** "37 [its number]": 0 to 11. */
    private static void numbersOfTasks() {
        TurnTasks t = Check.machine(37, 0, 39, 0, 30, 0);
        for (int i = 0; i < 12; i++) {
            t.spawn(0, 5);
        }
        t.run(36);
        Check.recordDue("numbers, in the ring", t, 1, 2, 3, 4, 5, 6, 7, 8, 9, 10, 11, 0);
    }

    /** "38 [TIME] (this STEP not counted)." */
    private static void timeOfTheStep() {
        TurnTasks t = Check.machine(38, 0, 38, 0, 1, 2, 36, 0, 38, 0, 32, 0, 38, 0);
        t.step();
        t.spawn(0, 7);
        t.run(2);
        Check.stackDue("0 at first, IDLE not counted", t, 0, 7, 0, 1);
        t.run(5);
        Check.stackDue("LATER is counted", t, 0, 7, 0, 1, 6);
        t.run(1);
        t.step();
        t.step();
        Check.due("DEAD", t.latest(), 3);
        t.put(0, 9);
        t.run(2);
        Check.stackDue("DEAD is not", t, 0, 7, 0, 1, 6, 9, 9);
    }

    private static void printsAnyInt() {
        int[] xs = {0, 1, -1, MIN, MAX};
        for (int x : xs) {
            TurnTasks t = Check.before(Check.ints(7, x), 39, 0);
            t.step();
            Check.recordDue("39", t, x);
            Check.stackDue("39 takes x", t, 0, 7);
        }
    }

    /** "7 no such TASK, one that is FREE, or itself." */
    private static void whichTasks() {
        int[] ops = {40, 41, 43};
        int[] none = {-1, 12, 13, 31, 32, 33, MIN, MAX, 0, 2, 11};
        for (int op : ops) {
            for (int x : none) {
                TurnTasks t = Check.before(Check.ints(7, x), op, 0);
                Check.load(t, 300, 32, 0);
                t.spawn(300, 0);
                t.quantum(1);
                t.run(9);
                String what = "OP " + op + " of TASK " + x;
                Check.faultDue(what, t, 0, 7);
                Check.stackDue(what + " takes nothing", t, 0, 7, x);
                Check.due(what + ": LINKS", t.about(0, 4), 0);
                Check.due(what + ": TASK 1 stays", t.state(1), 3);
            }
        }
    }

    /** TASKS 0 to 11: the one does the OP with the other; the others RECEIVE. */
    private static TurnTasks among(int op, int one, int other) {
        TurnTasks t = new TurnTasks();
        Check.load(t, 100, op, 0, 20, 101);
        Check.load(t, 300, 32, 0, 20, 301);
        t.quantum(1);
        for (int i = 0; i < 12; i++) {
            t.spawn(i == one ? 100 : 300, other);
        }
        t.run(12);
        return t;
    }

    private static void firstAndLastTask() {
        for (int one = 0; one <= 11; one += 11) {
            int other = 11 - one;
            TurnTasks killed = among(40, one, other);
            Check.faultDue("40 of " + other, killed, other, 9);
            Check.due("40 of " + other + ": LIVE", killed.told(4), 11);
            TurnTasks waits = among(41, one, other);
            Check.due("41 of " + other, waits.state(one), 6);
            TurnTasks linked = among(43, one, other);
            Check.due("43 of " + other, linked.about(one, 4), 1 << other);
            Check.due("43 of " + other + ": FAULTS", linked.told(7), 0);
        }
    }

    /** A busy machine in which TASK 7, the READY one, has done the OP with x, which was above a 50. */
    private static TurnTasks busyWith(int op, int x) {
        TurnTasks t = Check.busy();
        Check.load(t, 74, 1, 50, 1, x, op, 0, 20, 77);
        t.run(3);
        return t;
    }

    /** "40 takes x: TASK x, if it is LIVE, has FAULT 9": READY, SENDS, RECEIVES, CHOOSES, SLEEPS, WAITS. */
    private static void killsWhoIsLive() {
        int[] places = {0, 0, 20, 30, 40, 51, 60};
        for (int x = 2; x <= 6; x++) {
            TurnTasks t = busyWith(40, x);
            String what = "killed " + x;
            Check.faultDue(what, t, x, 9);
            Check.due(what + ": place as then", t.about(x, 0), places[x]);
            Check.due(what + ": ints as then", t.about(x, 1), x == 5 ? 0 : 1);
            Check.due(what + ": FAULTS", t.told(7), 2);
            Check.due(what + ": LIVE", t.told(4), 5);
            Check.stackDue(what + ": x is taken", t, 7, 77, 50);
            Check.due(what + ": the killer goes on", t.about(7, 0), 77);
        }
        TurnTasks ready = Check.machine(40, 0, 20, 1);
        ready.spawn(1, 5);
        ready.spawn(0, 0);
        ready.step();
        Check.faultDue("a READY one", ready, 0, 9);
        Check.stackDue("as then", ready, 0, 5);
    }

    private static void killsNoOneElse() {
        for (int x = 0; x <= 1; x++) {
            TurnTasks t = busyWith(40, x);
            Check.statesDue("OVER and FAULTED stay", t, 7, 8, 2, 3, 4, 5, 6, 1);
            Check.due("CODE stays", t.about(0, 6), 5);
            Check.due("FAULT stays", t.about(1, 6), -1);
            Check.due("no FAULT more", t.told(7), 1);
            Check.stackDue("x is taken all the same", t, 7, 77, 50);
        }
    }

    /** "(no TRAP takes it)." */
    private static void killIsNotTrapped() {
        TurnTasks t = Check.machine(42, 300, 32, 0);
        Check.load(t, 10, 29, 0, 40, 0, 20, 12);
        t.spawn(0, 5);
        t.spawn(10, 0);
        t.run(3);
        Check.due("it has a TRAP", t.about(0, 3), 300);
        Check.due("and waits", t.state(0), 3);
        t.step();
        Check.faultDue("killed", t, 0, 9);
        Check.due("TRAP as then", t.about(0, 3), 300);
        Check.due("place as then", t.about(0, 0), 1);
        Check.stackDue("STACK as then", t, 0, 5);
    }

    /** "41 .. if TASK x is not LIVE ..; else x stays, the TASK WAITS." */
    private static void waitsForWhoIsLive() {
        for (int x = 2; x <= 6; x++) {
            TurnTasks t = busyWith(41, x);
            Check.due("WAITS for " + x, t.state(7), 6);
            Check.due("stays", t.about(7, 0), 76);
            Check.stackDue("x stays", t, 7, 77, 50, x);
            Check.due("FAULTS", t.told(7), 1);
        }
        TurnTasks ready = Check.machine(41, 0, 20, 1);
        ready.spawn(1, 5);
        ready.spawn(0, 0);
        ready.step();
        Check.due("WAITS for a READY one", ready.state(1), 6);
    }

    /** "[its CODE], 0 less its FAULT". */
    private static void waitsNotForOthers() {
        TurnTasks over = busyWith(41, 0);
        Check.stackDue("its CODE", over, 7, 77, 50, 5);
        Check.due("goes on", over.about(7, 0), 77);
        Check.stackDue("0 less its FAULT", busyWith(41, 1), 7, 77, 50, -1);
        int[] codes = {0, -1, -9, MIN, MAX};
        for (int code : codes) {
            TurnTasks t = Check.machine(41, 0, 20, 1);
            Check.load(t, 10, 30, 0);
            t.spawn(0, 1);
            t.spawn(10, code);
            t.run(2);
            Check.stackDue("CODE " + code, t, 0, code);
        }
    }

    /** TASK 0 WAITS for 1; TASK 1 has a TRAP and has done the OP with x; TASK 2 RECEIVES. */
    private static TurnTasks waiter(int trap, int op, int x) {
        TurnTasks t = Check.machine(41, 0, 20, 1);
        Check.load(t, 20, 42, trap, 29, 0, op, 0, 20, 23);
        Check.load(t, 30, 32, 0);
        t.spawn(0, 1);
        t.spawn(20, x);
        t.spawn(30, 0);
        t.run(4);
        Check.statesDue("before OP " + op, t, 6, 1, 3);
        t.step();
        return t;
    }

    /** "It is READY again as soon as what it waits for is there": TASK x is not LIVE, by whatever cause. */
    private static void waitersAreWoken() {
        TurnTasks over = waiter(-1, 30, 6);
        Check.statesDue("it is OVER", over, 1, 7, 3);
        over.step();
        Check.stackDue("its CODE", over, 0, 6);
        TurnTasks faulted = waiter(-1, 46, 6);
        Check.statesDue("it is FAULTED", faulted, 1, 8, 3);
        faulted.step();
        Check.stackDue("0 less its FAULT", faulted, 0, -1);
        TurnTasks killed = Check.machine(41, 0, 20, 1);
        Check.load(killed, 30, 32, 0, 20, 31);
        Check.load(killed, 40, 29, 0, 40, 0, 20, 42);
        killed.spawn(0, 1);
        killed.spawn(30, 0);
        killed.spawn(40, 1);
        killed.spawn(0, 1);
        killed.run(4);
        Check.statesDue("two wait for it", killed, 6, 3, 1, 6);
        killed.step();
        Check.statesDue("it is killed, both are READY", killed, 1, 8, 1, 1);
        killed.run(40);
        Check.stackDue("the one", killed, 0, -9);
        Check.stackDue("the other", killed, 3, -9);
    }

    private static void waitersAreNotWoken() {
        TurnTasks trapped = waiter(30, 46, 6);
        Check.statesDue("a TRAP took the FAULT", trapped, 6, 1, 3);
        TurnTasks sleeps = waiter(-1, 36, 6);
        Check.statesDue("it SLEEPS", sleeps, 6, 5, 3);
        TurnTasks receives = waiter(-1, 32, 6);
        Check.statesDue("it RECEIVES", receives, 6, 3, 3);
        TurnTasks other = waiter(-1, 40, 2);
        Check.statesDue("another is killed", other, 6, 1, 8);
        Check.due("stays at its PLACE", other.about(0, 0), 0);
    }

    /** "4 its LINKS as bits"; a LINK twice is one. */
    private static void linksAreBits() {
        TurnTasks t = Check.machine(43, 0, 1, 11, 43, 0, 1, 5, 43, 0, 1, 11, 43, 0, 20, 7);
        Check.load(t, 300, 32, 0);
        t.spawn(0, 1);
        for (int i = 1; i < 12; i++) {
            t.spawn(300, 0);
        }
        t.run(11);
        int[] dues = {0, 2, 2, 2 + 2048, 2 + 2048, 2 + 32 + 2048, 2 + 32 + 2048, 2 + 32 + 2048};
        for (int i = 0; i < dues.length; i++) {
            Check.due("LINKS after " + i, t.about(0, 4), dues[i]);
            t.step();
        }
        Check.stackDue("each x is taken", t, 0);
        Check.due("no LINKS of the others", t.about(1, 4), 0);
    }

    /** "If that is FAULTED, FAULT 8 at once (as of this OP)." */
    private static void linkToFaulted() {
        TurnTasks t = busyWith(43, 1);
        Check.faultDue("LINK to a FAULTED one", t, 7, 8);
        Check.due("stays", t.about(7, 0), 76);
        Check.stackDue("takes nothing", t, 7, 77, 50, 1);
        Check.due("FAULTS", t.told(7), 2);
        TurnTasks over = busyWith(43, 0);
        Check.due("LINK to an OVER one", over.about(7, 4), 1);
        Check.due("READY", over.state(7), 1);
        for (int x = 2; x <= 6; x++) {
            TurnTasks live = busyWith(43, x);
            Check.due("LINK to a LIVE one", live.about(7, 4), 1 << x);
            Check.due("no FAULT more", live.told(7), 1);
            Check.stackDue("x is taken", live, 7, 77, 50);
        }
    }

    /** "For each that is FAULTED, as they come": also for one that has FAULT 8 by OP 43. */
    private static void linkToFaultedGoesOn() {
        // TASK 1 is FAULTED; TASK 2 has a LINK to 0, TASK 3 to 2; then TASK 0 makes its LINK to 1
        TurnTasks t = Check.machine(32, 1, 1, 1, 43, 0);
        Check.load(t, 10, 46, 0);
        Check.load(t, 20, 43, 0, 32, 0);
        t.spawn(0, 5);
        t.spawn(10, 5);
        t.spawn(20, 0);
        t.spawn(20, 2);
        t.run(40);
        Check.statesDue("all wait", t, 3, 8, 3, 3);
        t.put(1, 4);
        t.run(3);
        int[] faults = {8, 1, 8, 8};
        for (int i = 0; i < faults.length; i++) {
            Check.faultDue("TASK " + i, t, i, faults[i]);
        }
        Check.due("FAULTS", t.told(7), 4);
        Check.due("IDLE", t.step(), 2);
    }

    /** A LINK goes one way, and an end that is no FAULT goes by none. */
    private static void faultsByLinks() {
        int[] ops = {46, 30};
        for (int op : ops) {
            // TASK 0 has a LINK to 1, which has its end; TASK 2 has none, TASK 3 a LINK to 0
            TurnTasks t = Check.machine(43, 0, 32, 0);
            Check.load(t, 10, 32, 1, op, 0);
            t.spawn(0, 1);
            t.spawn(10, 5);
            t.spawn(1, 5);
            t.spawn(0, 0);
            t.run(40);
            Check.statesDue("all wait", t, 3, 3, 3, 3);
            t.put(1, 4);
            t.run(40);
            int then = op == 46 ? 8 : 3;
            Check.statesDue("OP " + op, t, then, op == 46 ? 8 : 7, 3, then);
            Check.due("OP " + op + ": FAULTS", t.told(7), op == 46 ? 3 : 0);
        }
        TurnTasks back = Check.machine(43, 0, 32, 0, 46, 0);
        Check.load(back, 10, 32, 1);
        back.spawn(0, 1);
        back.spawn(10, 5);
        back.run(40);
        back.put(0, 4);
        back.run(40);
        Check.faultDue("who has the LINK", back, 0, 1);
        Check.due("to whom it is", back.state(1), 3);
    }
}
