/** LINKS, kills (FAULT 9) and what follows by LINKS (FAULT 8) (Terms 2, OPS 40 and 43). */
public final class LinksTest {
    public static void main(String[] args) {
        links();
        linkToFaulted();
        kills();
        killOfOneThatSleeps();
        killerIsLinked();
        chain();
        trapBreaksChain();
        orderOfFall();
        Check.finish();
    }

    /** At 200: waits for CHANNEL 5 with no end. At 100: a LINK to its int, then so. At 110: a TRAP at 300, too. */
    private static TurnTasks machine(int... opsAndArgs) {
        TurnTasks t = Check.machine(opsAndArgs);
        Check.load(t, 100, 43, 0, 20, 200);
        Check.load(t, 110, 42, 300, 43, 0, 20, 200);
        Check.load(t, 200, 32, 5, 20, 200);
        Check.load(t, 300, 39, 0, 20, 200);
        return t;
    }

    private static void links() {
        TurnTasks t = machine(30, 0);
        t.spawn(200, 0);
        t.spawn(100, 0);
        t.spawn(100, 0);
        t.run(20);
        Check.due("LINK", t.about(1, 4), 1);
        Check.stackDue("x is taken", t, 1);
        t.put(5, 1);
        // an OVER TASK pulls none down
        Check.load(t, 201, 1, 0, 30, 0);
        t.run(40);
        Check.due("OVER", t.told(7), 0);
    }

    private static void linkToFaulted() {
        TurnTasks t = machine(46, 0);
        t.spawn(0, 0);
        t.spawn(100, 0);
        t.run(9);
        Check.faultDue("LINK to a FAULTED one", t, 1, 8);
        TurnTasks late = machine(46, 0);
        late.spawn(0, 0);
        late.step();
        late.spawn(200, 0);
        Check.due("its number is taken", late.state(0), 1);
        TurnTasks order = machine(46, 0);
        order.spawn(200, 0);
        order.spawn(0, 0);
        order.step();
        Check.faultDue("TASK 1", order, 1, 1);
        Check.load(order, 200, 1, 1, 43, 0);
        order.run(9);
        Check.faultDue("FAULT 8 at once", order, 0, 8);
        Check.due("as of this OP: place", order.about(0, 0), 201);
        Check.stackDue("as of this OP: STACK", order, 0, 0, 1);
        Check.due("as of this OP: no LINK", order.about(0, 4), 0);
        TurnTasks trapped = machine(46, 0);
        trapped.spawn(110, 1);
        trapped.spawn(0, 0);
        trapped.run(5);
        Check.recordDue("a TRAP takes it", trapped, 8);
        Check.due("FAULTS", trapped.told(7), 2);
        TurnTasks over = machine(30, 0);
        over.spawn(100, 1);
        over.spawn(0, 3);
        over.run(9);
        Check.due("LINK to an OVER one", over.about(0, 4), 2);
        Check.due("no FAULT", over.told(7), 0);
    }

    private static void kills() {
        TurnTasks t = machine(40, 0, 20, 1);
        t.spawn(110, 11);
        t.spawn(0, 0);
        Check.load(t, 111, 20, 200);
        t.run(2);
        // the order is TASK 1 first: it kills TASK 0 before that has a TRAP
        Check.faultDue("killed", t, 0, 9);
        Check.due("as it was then", t.about(0, 0), 110);
        Check.due("the killer goes on", t.state(1), 1);
        Check.stackDue("x is taken", t, 1);
        Check.due("FAULTS", t.told(7), 1);
        TurnTasks trap = machine(29, 0, 40, 0, 20, 2);
        trap.spawn(110, 11);
        trap.spawn(0, 0);
        Check.load(trap, 111, 20, 200);
        trap.run(20);
        Check.faultDue("no TRAP takes it", trap, 0, 9);
        Check.due("TRAP as then", trap.about(0, 3), 300);
        TurnTasks over = machine(30, 0);
        over.spawn(200, 1);
        over.spawn(0, 3);
        over.step();
        Check.load(over, 200, 40, 0, 20, 201);
        over.run(3);
        Check.due("an OVER one stays so", over.state(1), 7);
        Check.due("and its CODE", over.about(1, 6), 3);
        Check.due("no FAULT", over.told(7), 0);
        Check.stackDue("x is taken all the same", over, 0);
    }

    private static void killOfOneThatSleeps() {
        TurnTasks t = machine(36, 0);
        Check.load(t, 10, 29, 0, 40, 0, 20, 12);
        Check.load(t, 20, 41, 0, 39, 0, 20, 22);
        t.spawn(0, 900);
        t.spawn(10, 0);
        t.spawn(20, 0);
        t.run(3);
        Check.due("SLEEPS", t.state(0), 5);
        Check.due("WAITS", t.state(2), 6);
        t.step();
        Check.faultDue("killed", t, 0, 9);
        Check.due("it does not sleep", t.about(0, 5), 0);
        Check.due("who waits for it is READY", t.state(2), 1);
        t.run(20);
        Check.recordDue("and gets 0 less the FAULT", t, -9);
    }

    private static void killerIsLinked() {
        TurnTasks t = machine(43, 0, 1, 1, 40, 0, 20, 3);
        t.spawn(0, 1);
        t.spawn(200, 0);
        t.run(9);
        Check.faultDue("killed", t, 1, 9);
        Check.faultDue("the killer by its LINK", t, 0, 8);
        Check.due("its OP was done", t.about(0, 0), 3);
        Check.stackDue("its OP took x", t, 0);
        TurnTasks trapped = machine(42, 300, 43, 0, 1, 1, 40, 0, 20, 4);
        trapped.spawn(0, 1);
        trapped.spawn(200, 0);
        trapped.run(9);
        Check.recordDue("the killer's TRAP", trapped, 8);
        Check.due("FAULTS", trapped.told(7), 2);
    }

    private static void chain() {
        // 0 <- 1 <- 2 <- 3, and 4 with none
        TurnTasks t = machine(32, 0, 46, 0);
        t.spawn(0, 0);
        for (int i = 1; i <= 3; i++) {
            t.spawn(100, i - 1);
        }
        t.spawn(200, 0);
        t.run(40);
        t.put(0, 1);
        t.run(40);
        Check.faultDue("the first", t, 0, 1);
        for (int i = 1; i <= 3; i++) {
            Check.faultDue("linked " + i, t, i, 8);
            Check.due("as it was then " + i, t.about(i, 0), 200);
        }
        Check.due("not linked", t.state(4), 3);
        Check.due("FAULTS", t.told(7), 4);
    }

    private static void trapBreaksChain() {
        TurnTasks t = machine(32, 0, 46, 0);
        t.spawn(0, 0);
        t.spawn(100, 0);
        t.spawn(110, 1);
        t.spawn(100, 2);
        t.run(40);
        t.put(0, 1);
        t.step();
        t.step();
        Check.faultDue("linked", t, 1, 8);
        Check.due("trapped, whatever it waited for", t.state(2), 1);
        Check.due("trapped at", t.about(2, 0), 300);
        Check.stackDue("trapped with", t, 2, 8);
        Check.due("its LINKS stay", t.about(2, 4), 2);
        Check.due("its TRAP is used", t.about(2, 3), -1);
        Check.due("behind it all is well", t.state(3), 3);
        Check.due("FAULTS", t.told(7), 3);
        othersStay();
    }

    private static void othersStay() {
        // TASK 1 has a LINK to 0, which lives; 2 falls; 3 has a LINK to 4, whose TRAP takes a FAULT
        TurnTasks t = machine(32, 0, 46, 0);
        Check.load(t, 10, 42, 300, 46, 0);
        t.spawn(200, 0);
        t.spawn(100, 0);
        t.spawn(0, 0);
        t.spawn(100, 4);
        t.spawn(10, 0);
        t.run(40);
        t.put(0, 1);
        t.run(40);
        Check.faultDue("TASK 2", t, 2, 1);
        Check.recordDue("TASK 4 is trapped", t, 1);
        Check.due("TASK 1 stays", t.state(1), 3);
        Check.due("TASK 3 stays", t.state(3), 3);
        Check.due("FAULTS of both", t.told(7), 2);
    }

    private static void orderOfFall() {
        // TASK 1 falls first, then 0 and 3 by LINKS to it. TASK 2 has LINKS to 0 and 3 and a TRAP:
        // the LINK to 0 meets the TRAP, the LINK to 3 finds none any more
        TurnTasks t = machine(32, 0, 46, 0);
        Check.load(t, 10, 42, 300, 43, 0, 1, 3, 43, 0, 20, 200);
        t.spawn(100, 1);
        t.spawn(0, 0);
        t.spawn(10, 0);
        t.spawn(100, 1);
        t.run(40);
        Check.due("LINKS of 2", t.about(2, 4), 9);
        t.put(0, 1);
        t.run(40);
        Check.faultDue("TASK 2 by the second", t, 2, 8);
        Check.due("its PLACE", t.about(2, 0), 300);
        Check.stackDue("its STACK", t, 2, 8);
        Check.due("FAULTS", t.told(7), 5);
        Check.due("no LIVE one", t.told(4), 0);
        wideFall();
    }

    private static void wideFall() {
        TurnTasks t = machine(32, 0, 46, 0);
        t.spawn(0, 0);
        for (int i = 1; i < 12; i++) {
            t.spawn(100, (i * 7) % 12 % i);
        }
        t.run(200);
        t.put(0, 1);
        t.run(200);
        Check.due("all fall", t.told(4), 0);
        Check.due("each once", t.told(7), 12);
    }
}
