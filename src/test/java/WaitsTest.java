/** What WAITS, SENDS, RECEIVES and CHOOSES: where it stays, and when it is READY again (Terms 3). */
public final class WaitsTest {
    public static void main(String[] args) {
        sends();
        receives();
        chooses();
        waits();
        allAreWoken();
        sizeWakes();
        pokedWhileWaiting();
        Check.finish();
    }

    private static void waitsDue(String what, TurnTasks t, int task, int state, int place) {
        Check.due(what + ": state", t.state(task), state);
        Check.due(what + ": place", t.about(task, 0), place);
    }

    private static void sends() {
        TurnTasks t = Check.machine(31, 1, 20, 1);
        t.size(1, 1);
        t.put(1, 50);
        t.spawn(0, 9);
        Check.due("sends RAN", t.step(), 0);
        waitsDue("sends", t, 0, 2, 0);
        Check.stackDue("x stays", t, 0, 9);
        Check.due("DEAD", t.step(), 3);
        Check.due("take of another", t.take(0), 0);
        waitsDue("still sends", t, 0, 2, 0);
        Check.due("take", t.take(1), 50);
        waitsDue("READY at once", t, 0, 1, 0);
        t.step();
        Check.due("sent", t.channel(1, 0), 9);
        waitsDue("went on", t, 0, 1, 1);
        Check.stackDue("x is gone", t, 0);
    }

    private static void receives() {
        TurnTasks t = Check.machine(32, 2, 20, 1);
        t.spawn(0, 9);
        t.step();
        waitsDue("receives", t, 0, 3, 0);
        t.put(1, 7);
        waitsDue("of another CHANNEL", t, 0, 3, 0);
        t.put(2, 8);
        waitsDue("READY at once", t, 0, 1, 0);
        t.take(2);
        waitsDue("READY though it is gone", t, 0, 1, 0);
        t.step();
        waitsDue("waits again", t, 0, 3, 0);
        t.put(2, 8);
        t.step();
        Check.stackDue("received", t, 0, 9, 8);
        // by another TASK: woken at the end of its STEP
        TurnTasks two = Check.machine(32, 0, 20, 1);
        Check.load(two, 10, 31, 0, 20, 11);
        two.spawn(10, 77);
        two.spawn(0, 1);
        two.step();
        waitsDue("TASK 1", two, 1, 3, 0);
        two.step();
        waitsDue("TASK 1 then", two, 1, 1, 0);
        Check.due("READY ones", two.told(5), 2);
    }

    private static void chooses() {
        for (int c = 0; c < 2; c++) {
            TurnTasks t = Check.machine(35, 3 + 8 * 4, 20, 1);
            t.spawn(0, 9);
            t.step();
            waitsDue("chooses", t, 0, 4, 0);
            t.put(0, 1);
            waitsDue("of another", t, 0, 4, 0);
            t.put(3 + c, 6);
            waitsDue("READY at once", t, 0, 1, 0);
            t.step();
            Check.stackDue("chosen", t, 0, 9, 6, c);
        }
    }

    private static void waits() {
        TurnTasks t = Check.machine(41, 0, 39, 0, 20, 2);
        Check.load(t, 20, 30, 0);
        Check.load(t, 30, 46, 0);
        t.spawn(20, -5);
        t.spawn(0, 0);
        t.step();
        waitsDue("waits", t, 1, 6, 0);
        Check.stackDue("x stays", t, 1, 0);
        t.step();
        Check.due("OVER", t.state(0), 7);
        waitsDue("READY at its end", t, 1, 1, 0);
        t.step();
        Check.stackDue("its CODE", t, 1, -5);
        TurnTasks faulted = Check.machine(41, 0, 39, 0, 20, 2);
        Check.load(faulted, 30, 46, 0);
        faulted.spawn(30, -5);
        faulted.spawn(0, 0);
        faulted.run(4);
        Check.recordDue("0 less its FAULT", faulted, -1);
        // OVER before it is asked for: nothing waits
        TurnTasks early = Check.machine(41, 0, 39, 0, 20, 2);
        Check.load(early, 20, 30, 0);
        early.spawn(20, 6);
        early.step();
        early.spawn(20, 0);
        Check.due("the number again", early.state(0), 1);
        early.spawn(0, 0);
        early.run(4);
        Check.recordDue("the later CODE", early, 0);
        dead();
    }

    private static void dead() {
        TurnTasks t = Check.machine(41, 0);
        t.spawn(0, 1);
        t.spawn(0, 0);
        Check.due("two wait for one another", t.run(9), 2);
        Check.due("DEAD", t.latest(), 3);
        // a number that is spawned anew before the waiting one has its turn is waited for again
        TurnTasks anew = Check.machine(41, 0, 20, 1);
        Check.load(anew, 20, 30, 0);
        Check.load(anew, 30, 32, 0);
        anew.spawn(20, 4);
        anew.spawn(0, 0);
        anew.run(2);
        Check.due("READY", anew.state(1), 1);
        anew.spawn(30, 0);
        anew.run(9);
        waitsDue("waits anew", anew, 1, 6, 0);
    }

    private static void allAreWoken() {
        TurnTasks t = Check.machine(32, 0, 20, 1);
        for (int i = 0; i < 3; i++) {
            t.spawn(0, 0);
        }
        t.run(9);
        Check.due("none is READY", t.told(5), 0);
        t.put(0, 5);
        Check.due("all are READY", t.told(5), 3);
        t.step();
        Check.due("one went on", t.told(5), 3);
        t.quantum(1);
        t.run(20);
        Check.due("the others wait again", t.told(5), 1);
    }

    private static void sizeWakes() {
        TurnTasks t = Check.machine(31, 0, 20, 1);
        t.size(0, 1);
        t.put(0, 1);
        t.spawn(0, 2);
        t.step();
        Check.due("SENDS", t.state(0), 2);
        t.size(0, 1);
        Check.due("still SENDS", t.state(0), 2);
        t.size(0, 2);
        Check.due("READY by size", t.state(0), 1);
    }

    private static void pokedWhileWaiting() {
        TurnTasks t = Check.machine(32, 0, 20, 1);
        t.spawn(0, 2);
        t.step();
        Check.load(t, 0, 32, 1);
        t.put(1, 6);
        Check.due("it waits for what it asked for", t.state(0), 3);
        t.put(0, 5);
        Check.due("READY", t.state(0), 1);
        t.step();
        Check.stackDue("the OP that is there then", t, 0, 2, 6);
    }
}
