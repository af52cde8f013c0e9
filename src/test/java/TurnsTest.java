/** Promises 10 and 11: STEPS, TURN, LEFT, TIME, sleeping, and what a STEP is told to be. */
public final class TurnsTest {
    public static void main(String[] args) {
        idle();
        ring();
        leftStaysWithTurn();
        giveWay();
        sleeping();
        laterAndDead();
        runs();
        Check.finish();
    }

    private static void idle() {
        TurnTasks t = new TurnTasks();
        Check.due("no TASK", t.step(), 2);
        Check.due("TIME of IDLE", t.told(0), 0);
        Check.due("run of IDLE", t.run(7), 0);
    }

    private static void turnsDue(String what, TurnTasks t, int... turns) {
        for (int i = 0; i < turns.length; i++) {
            Check.due(what + " step " + i, t.step(), 0);
            Check.due(what + " TURN " + i, t.told(1), turns[i]);
        }
    }

    private static void ring() {
        TurnTasks t = Check.machine(20, 0);
        for (int i = 0; i < 12; i++) {
            t.spawn(0, i);
        }
        t.quantum(2);
        turnsDue("ring", t, 1, 1, 2, 2, 3, 3, 4, 4, 5, 5, 6, 6, 7, 7, 8, 8, 9, 9, 10, 10, 11, 11, 0, 0, 1, 1, 2);
        Check.due("LEFT", t.told(2), 1);
        TurnTasks alone = Check.machine(20, 0);
        alone.spawn(0, 0);
        alone.quantum(2);
        turnsDue("alone", alone, 0, 0, 0, 0, 0);
        Check.due("LEFT alone", alone.told(2), 1);
    }

    private static void leftStaysWithTurn() {
        // TASK 1 waits after one STEP, gets its int from outside, and goes on with what it has LEFT
        TurnTasks t = Check.machine(32, 0, 20, 1);
        t.spawn(0, 0);
        t.step();
        t.step();
        Check.due("DEAD", t.latest(), 3);
        Check.due("LEFT of one that waits", t.told(2), 7);
        t.put(0, 3);
        t.step();
        Check.due("LEFT goes on", t.told(2), 6);
        // a new TASK with the number of TURN has what is LEFT, too
        TurnTasks anew = Check.machine(30, 0, 20, 1);
        anew.spawn(0, 0);
        anew.spawn(1, 0);
        anew.step();
        Check.due("TURN", anew.told(1), 1);
        anew.run(7);
        anew.step();
        Check.due("OVER", anew.state(0), 7);
        anew.spawn(1, 0);
        anew.step();
        Check.due("TURN anew", anew.told(1), 0);
        Check.due("LEFT anew", anew.told(2), 6);
    }

    private static void giveWay() {
        TurnTasks t = Check.machine(29, 0, 20, 0);
        t.spawn(0, 0);
        t.spawn(0, 0);
        turnsDue("give way", t, 1, 0, 1, 1, 0, 0, 1, 1);
    }

    private static void sleeping() {
        TurnTasks t = Check.machine(36, 0, 20, 1);
        t.spawn(0, 1);
        t.step();
        Check.due("SLEEPS", t.state(0), 5);
        Check.due("hour", t.about(0, 5), 2);
        Check.due("the next PLACE", t.about(0, 0), 1);
        Check.due("LATER", t.step(), 1);
        Check.due("TIME of LATER", t.told(0), 2);
        Check.due("SLEEPS until the next STEP", t.state(0), 5);
        Check.due("awake", t.step(), 0);
        Check.due("READY", t.state(0), 1);
        int[] none = {0, -1, Integer.MIN_VALUE};
        for (int x : none) {
            TurnTasks awake = Check.machine(36, 0, 20, 1);
            awake.spawn(0, x);
            awake.step();
            Check.due("sleeps not, by " + x, awake.state(0), 1);
            Check.due("LEFT stays, by " + x, awake.told(2), 7);
        }
        int[] longs = {999999, 1000000, 1000001, Integer.MAX_VALUE};
        for (int x : longs) {
            TurnTasks slow = Check.machine(36, 0);
            slow.spawn(0, x);
            slow.step();
            Check.due("hour of " + x, slow.about(0, 5), 1 + Math.min(x, 1000000));
        }
    }

    private static void laterAndDead() {
        TurnTasks t = Check.machine(36, 0, 32, 0);
        t.spawn(0, 3);
        t.spawn(1, 0);
        t.run(2);
        Check.due("one SLEEPS, one RECEIVES", t.step(), 1);
        Check.due("TURN of LATER", t.told(1), 0);
        Check.due("LEFT of LATER", t.told(2), 7);
        t.run(2);
        Check.due("RAN and waits", t.step(), 0);
        int time = t.told(0);
        Check.due("all wait", t.step(), 3);
        Check.due("TIME of DEAD", t.told(0), time);
        Check.due("LIVE of DEAD", t.told(4), 2);
    }

    private static void runs() {
        TurnTasks t = Check.machine(20, 0);
        t.spawn(0, 0);
        Check.due("run(-1)", t.run(-1), -2);
        Check.due("run(5001)", t.run(5001), -2);
        Check.due("TIME of wrong runs", t.told(0), 0);
        Check.due("run(0)", t.run(0), 0);
        Check.due("latest of run(0)", t.latest(), 2);
        Check.due("run(5000)", t.run(5000), 5000);
        Check.due("TIME", t.told(0), 5000);
        Check.load(t, 0, 30, 0);
        Check.due("run until IDLE", t.run(10), 1);
        Check.due("latest", t.latest(), 2);
        TurnTasks slow = Check.machine(36, 0, 32, 0);
        slow.spawn(0, 4);
        Check.due("run counts LATER", slow.run(100), 6);
        Check.due("until DEAD", slow.latest(), 3);
    }
}
