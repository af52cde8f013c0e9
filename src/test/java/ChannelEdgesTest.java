/** Section 3, OPS 31 to 35 and 44, and put, take, size: CHANNELS that are empty or full, and who is woken by what. */
public final class ChannelEdgesTest {
    private static final int MIN = Integer.MIN_VALUE, MAX = Integer.MAX_VALUE;

    public static void main(String[] args) {
        whichChannels();
        whichPairs();
        sendsUntilFull();
        receivesUntilEmpty();
        triesToSend();
        triesToReceive();
        choosesTheFirstThatHas();
        tellsHowManyAreHeld();
        comesOnAFullStack();
        sendersAreWoken();
        receiversAreWoken();
        choosersAreWoken();
        othersAreNotWoken();
        allAreWokenAndMayWaitAgain();
        waitsForWhatItAsked();
        Check.finish();
    }

    private static TurnTasks stepped(int op, int arg, int channel, int held) {
        TurnTasks t = Check.before(Check.ints(7, 8), op, arg);
        for (int i = 0; i < held; i++) {
            t.put(channel, 50 + i);
        }
        t.step();
        return t;
    }

    /** "6 no such CHANNEL": ARG is 0 to 5. */
    private static void whichChannels() {
        int[] ops = {31, 32, 33, 34, 44};
        int[] none = {-1, 6, 7, 8, 8388607, -8388608};
        for (int op : ops) {
            for (int arg = 0; arg <= 5; arg++) {
                TurnTasks t = stepped(op, arg, arg, 1);
                Check.due("OP " + op + " CHANNEL " + arg, t.told(7), 0);
                int held = op == 31 || op == 33 ? 2 : op == 44 ? 1 : 0;
                Check.due("OP " + op + " CHANNEL " + arg + ": held", t.held(arg), held);
            }
            for (int arg : none) {
                TurnTasks t = stepped(op, arg, 0, 1);
                Check.faultDue("OP " + op + " CHANNEL " + arg, t, 0, 6);
                Check.stackDue("OP " + op + " takes nothing", t, 0, 7, 8);
                Check.channelDue("OP " + op + " takes nothing", t, 0, 50);
            }
        }
    }

    /** "35 ARG is c and 8 times d (0 to 5 each)." */
    private static void whichPairs() {
        for (int c = 0; c < 8; c++) {
            for (int d = -1; d < 8; d++) {
                TurnTasks t = Check.before(Check.ints(7, 8), 35, c + 8 * d);
                t.step();
                if (c <= 5 && d >= 0 && d <= 5) {
                    Check.due("CHOOSES of " + c + ", " + d, t.state(0), 4);
                } else {
                    Check.faultDue("no choice of " + c + ", " + d, t, 0, 6);
                    Check.stackDue("no choice of " + c + ", " + d, t, 0, 7, 8);
                }
            }
        }
        int[] none = {64, -64, 8388607, -8388608};
        for (int arg : none) {
            Check.faultDue("no choice by " + arg, stepped(35, arg, 0, 1), 0, 6);
        }
    }

    /** "31 takes x, which comes to CHANNEL ARG; if that is full, x stays, the TASK SENDS." */
    private static void sendsUntilFull() {
        for (int size = 1; size <= 8; size += 7) {
            for (int held = size - 1; held <= size; held++) {
                TurnTasks t = Check.before(Check.ints(7, MIN), 31, 2);
                t.size(2, size);
                for (int i = 0; i < held; i++) {
                    t.put(2, i);
                }
                Check.due("31 step", t.step(), 0);
                String what = "31 with " + held + " of " + size;
                Check.due(what + ": state", t.state(0), held == size ? 2 : 1);
                Check.due(what + ": place", t.about(0, 0), held == size ? 100 : 101);
                Check.due(what + ": ints", t.about(0, 1), held == size ? 2 : 1);
                Check.due(what + ": held", t.held(2), size);
                Check.due(what + ": the last", t.channel(2, size - 1), held == size ? size - 1 : MIN);
            }
        }
    }

    /** "32 [the first of CHANNEL ARG], which goes; if it is empty, the TASK RECEIVES." */
    private static void receivesUntilEmpty() {
        TurnTasks two = stepped(32, 2, 2, 2);
        Check.stackDue("32 of two", two, 0, 7, 8, 50);
        Check.channelDue("32 of two", two, 2, 51);
        TurnTasks one = stepped(32, 2, 2, 1);
        Check.stackDue("32 of one", one, 0, 7, 8, 50);
        Check.channelDue("32 of one", one, 2);
        Check.due("32 of one: place", one.about(0, 0), 101);
        TurnTasks none = stepped(32, 2, 2, 0);
        Check.stackDue("32 of none", none, 0, 7, 8);
        Check.due("32 of none: state", none.state(0), 3);
        Check.due("32 of none: place", none.about(0, 0), 100);
    }

    /** "33 takes x: as 31, and [1]; if it is full [0] (x is gone)." */
    private static void triesToSend() {
        TurnTasks last = stepped(33, 2, 2, 3);
        Check.stackDue("33 with 3 of 4", last, 0, 7, 1);
        Check.channelDue("33 with 3 of 4", last, 2, 50, 51, 52, 8);
        TurnTasks full = stepped(33, 2, 2, 4);
        Check.stackDue("33 with 4 of 4", full, 0, 7, 0);
        Check.channelDue("33 with 4 of 4", full, 2, 50, 51, 52, 53);
        Check.due("33 does not wait", full.state(0), 1);
        Check.due("33 goes on", full.about(0, 0), 101);
    }

    /** "34 as 32, and [1] above it; if it is empty [0] alone." */
    private static void triesToReceive() {
        TurnTasks one = stepped(34, 2, 2, 1);
        Check.stackDue("34 of one", one, 0, 7, 8, 50, 1);
        Check.channelDue("34 of one", one, 2);
        TurnTasks none = stepped(34, 2, 2, 0);
        Check.stackDue("34 of none", none, 0, 7, 8, 0);
        Check.due("34 does not wait", none.state(0), 1);
        Check.due("34 goes on", none.about(0, 0), 101);
    }

    /** "Of CHANNEL c, or, if that is empty, of d: the first, which goes, and [0], [1] above it for which." */
    private static void choosesTheFirstThatHas() {
        TurnTasks both = Check.before(Check.ints(7), 35, 5 + 8 * 0);
        both.put(0, 60);
        both.put(5, 70);
        both.put(5, 71);
        both.step();
        Check.stackDue("of c, though d has", both, 0, 7, 70, 0);
        Check.channelDue("of c: the first goes", both, 5, 71);
        Check.channelDue("of c: d stays", both, 0, 60);
        TurnTasks second = Check.before(Check.ints(7), 35, 5 + 8 * 0);
        second.put(0, 60);
        second.step();
        Check.stackDue("of d", second, 0, 7, 60, 1);
        Check.channelDue("of d: it goes", second, 0);
        TurnTasks same = Check.before(Check.ints(7), 35, 5 + 8 * 5);
        same.put(5, 70);
        same.step();
        Check.stackDue("of one CHANNEL twice", same, 0, 7, 70, 0);
        TurnTasks none = Check.before(Check.ints(7), 35, 5 + 8 * 0);
        none.put(1, 60);
        none.step();
        Check.stackDue("of none", none, 0, 7);
        Check.due("of none: CHOOSES", none.state(0), 4);
        Check.due("of none: stays", none.about(0, 0), 100);
    }

    /** "44 [how many CHANNEL ARG holds]." */
    private static void tellsHowManyAreHeld() {
        for (int held = 0; held <= 8; held += 4) {
            TurnTasks t = Check.before(Check.ints(7), 44, 3);
            t.size(3, 8);
            for (int i = 0; i < held; i++) {
                t.put(3, 99);
            }
            t.step();
            Check.stackDue("44 of " + held, t, 0, 7, held);
            Check.due("44 takes none", t.held(3), held);
        }
    }

    private static TurnTasks withInts(int depth, int op, int arg, int channel) {
        TurnTasks t = Check.before(Check.manyInts(depth, 9), op, arg);
        if (channel >= 0) {
            t.put(channel, 8);
        }
        t.step();
        return t;
    }

    private static void comesDue(int op, int arg, int channel, int most, int come) {
        for (int depth = most; depth <= Math.min(most + 1, 24); depth++) {
            TurnTasks t = withInts(depth, op, arg, channel);
            String what = "OP " + op + " of CHANNEL " + channel + " with " + depth;
            Check.due(what + ": ints", t.about(0, 1), depth == most ? depth + come : depth);
            Check.due(what + ": outcome", t.about(0, 6), depth == most ? 0 : -3);
            if (channel >= 0) {
                Check.due(what + ": held", t.held(channel), depth == most ? 0 : 1);
            }
        }
    }

    /** "3 the STACK would have more than 24 by what comes. (What waits has none by what would come.)" */
    private static void comesOnAFullStack() {
        comesDue(32, 1, 1, 23, 1);
        comesDue(34, 1, 1, 22, 2);
        comesDue(34, 1, -1, 23, 1);
        comesDue(35, 1 + 8 * 3, 1, 22, 2);
        comesDue(35, 1 + 8 * 3, 3, 22, 2);
        comesDue(35, 5 + 8 * 5, 5, 22, 2);
        for (int depth = 22; depth <= 24; depth++) {
            Check.due("32 waits with " + depth, withInts(depth, 32, 1, -1).state(0), 3);
            Check.due("35 waits with " + depth, withInts(depth, 35, 1 + 8 * 3, 0).state(0), 4);
        }
        TurnTasks sends = Check.before(Check.manyInts(24, 9), 31, 1);
        sends.size(1, 1);
        sends.put(1, 8);
        sends.step();
        Check.due("31 waits with 24", sends.state(0), 2);
        TurnTasks then = withInts(24, 32, 1, -1);
        then.put(1, 8);
        Check.due("32 is READY", then.state(0), 1);
        then.step();
        Check.faultDue("32 with 24 when it comes", then, 0, 3);
        Check.channelDue("32 takes nothing", then, 1, 8);
    }

    /** TASK 0 waits by an OP at 10; TASK 1 is about to do another at 20, with x; CHANNEL 1 has SIZE 1. */
    private static TurnTasks pair(int op, int arg, int other, int otherArg, int x, boolean full) {
        TurnTasks t = new TurnTasks();
        Check.load(t, 10, op, arg, 20, 11);
        Check.load(t, 20, 29, 0, other, otherArg, 20, 22);
        t.size(1, 1);
        if (full) {
            t.put(1, 8);
        }
        t.spawn(10, 6);
        t.spawn(20, x);
        t.run(2);
        return t;
    }

    private static void wakes(int before, TurnTasks t, int other) {
        Check.statesDue("before OP " + other, t, before, 1);
        Check.due("TURN of OP " + other, t.step(), 0);
        Check.statesDue("woken by OP " + other, t, 1, 1);
        Check.due("stays at its PLACE", t.about(0, 0), 10);
    }

    /** "It is READY again as soon as what it waits for is there": room, by whatever makes it. */
    private static void sendersAreWoken() {
        wakes(2, pair(31, 1, 32, 1, 0, true), 32);
        wakes(2, pair(31, 1, 34, 1, 0, true), 34);
        wakes(2, pair(31, 1, 35, 1 + 8 * 2, 0, true), 35);
        wakes(2, pair(31, 1, 35, 2 + 8 * 1, 0, true), 35);
        TurnTasks taken = pair(31, 1, 0, 0, 0, true);
        taken.take(1);
        Check.due("woken by take", taken.state(0), 1);
        TurnTasks grown = pair(31, 1, 0, 0, 0, true);
        grown.size(1, 1);
        Check.due("not woken by the same SIZE", grown.state(0), 2);
        grown.size(1, 9);
        Check.due("not woken by a wrong SIZE", grown.state(0), 2);
        grown.size(1, 2);
        Check.due("woken by one more", grown.state(0), 1);
    }

    private static void receiversAreWoken() {
        wakes(3, pair(32, 1, 31, 1, 5, false), 31);
        wakes(3, pair(32, 1, 33, 1, 5, false), 33);
        TurnTasks given = pair(32, 1, 0, 0, 0, false);
        given.size(1, 8);
        Check.due("not woken by SIZE", given.state(0), 3);
        given.put(1, 0);
        Check.due("woken by put", given.state(0), 1);
    }

    private static void choosersAreWoken() {
        int[] pairs = {1 + 8 * 2, 2 + 8 * 1, 1 + 8 * 1};
        for (int arg : pairs) {
            wakes(4, pair(35, arg, 31, 1, 5, false), 31);
            wakes(4, pair(35, arg, 33, 1, 5, false), 33);
            TurnTasks given = pair(35, arg, 0, 0, 0, false);
            given.put(1, 0);
            Check.due("woken by put", given.state(0), 1);
            given.step();
            given.step();
            Check.stackDue("which it was", given, 0, 6, 0, arg % 8 == 1 ? 0 : 1);
        }
    }

    /** Other CHANNELS, other calls, and what comes to one that stays full or empty. */
    private static void othersAreNotWoken() {
        int[] ops = {31, 32, 35};
        int[] args = {1, 2, 2 + 8 * 3};
        int[] states = {2, 3, 4};
        for (int i = 0; i < ops.length; i++) {
            TurnTasks t = pair(ops[i], args[i], 33, 1, 5, true);
            String what = "OP " + ops[i];
            Check.due(what + " waits", t.state(0), states[i]);
            t.step();
            Check.due(what + ": not by a vain try", t.state(0), states[i]);
            t.put(0, 3);
            t.put(5, 3);
            t.take(0);
            t.take(4);
            t.size(5, 8);
            t.put(1, 3);
            t.quantum(3);
            t.poke(400, 3);
            t.spawn(400, 3);
            t.run(3);
            t.run(-1);
            Check.due(what + ": not by others", t.state(0), states[i]);
            Check.due(what + ": PLACE", t.about(0, 0), 10);
        }
    }

    /** "All those are, for which it is (each then does its OP anew, and may wait again)." */
    private static void allAreWokenAndMayWaitAgain() {
        TurnTasks t = Check.machine(32, 1, 20, 1);
        Check.load(t, 10, 35, 2 + 8 * 1, 20, 11);
        Check.load(t, 20, 31, 0, 20, 21);
        t.size(0, 1);
        t.put(0, 9);
        int[] places = {0, 0, 10, 20, 20};
        for (int place : places) {
            t.spawn(place, 6);
        }
        t.run(9);
        Check.statesDue("all wait", t, 3, 3, 4, 2, 2);
        t.put(1, 0);
        Check.statesDue("those for which it is", t, 1, 1, 1, 2, 2);
        t.take(0);
        Check.statesDue("and those", t, 1, 1, 1, 1, 1);
        // TURN was 0 and has LEFT: it gets the one int, then loops; the others wait again, but for one that sends
        t.quantum(1);
        t.run(20);
        Check.statesDue("may wait again", t, 1, 3, 4, 1, 2);
        Check.stackDue("who got it", t, 0, 6, 0);
        Check.channelDue("who sent", t, 0, 6);
    }

    /** What is asked for is the CHANNEL as of the OP: its extremes come as they are. */
    private static void waitsForWhatItAsked() {
        int[] xs = {0, -1, MIN, MAX};
        for (int x : xs) {
            TurnTasks t = pair(32, 5, 0, 0, 0, false);
            Check.due("put", t.put(5, x), 1);
            Check.due("READY", t.state(0), 1);
            Check.due("channel", t.channel(5, 0), x);
            t.run(16);
            Check.stackDue("it comes as it is", t, 0, 6, x);
            t.put(5, x);
            Check.due("and goes as it is", t.take(5), x);
        }
    }
}
