/** Section 3, OPS 0 to 30 and 45: at the last number that is allowed and at the first that is not. */
public final class OpEdgesTest {
    private static final int MIN = Integer.MIN_VALUE, MAX = Integer.MAX_VALUE;
    private static final int FAULTS = -1;

    public static void main(String[] args) {
        withTooFew();
        withFullStack();
        argsThatCome();
        sumsWrap();
        divisions();
        shifts();
        comparisons();
        goesToPlaces();
        goesIfZero();
        callsAndReturns();
        memoryByArg();
        memoryByInt();
        spawnsAtPlaces();
        spawnsWithAllLive();
        givesWay();
        endsWithAnyCode();
        picks();
        Check.finish();
    }

    private static TurnTasks done(int op, int arg, int... stack) {
        TurnTasks t = Check.before(stack, op, arg);
        Check.due("OP " + op + " step", t.step(), 0);
        return t;
    }

    private static void leaves(int op, int[] stack, int... after) {
        TurnTasks t = done(op, 0, stack);
        Check.stackDue("OP " + op, t, 0, after);
        Check.due("OP " + op + " has no FAULT", t.told(7), 0);
        Check.due("OP " + op + " goes on", t.about(0, 0), 101);
    }

    private static void faults(int fault, int op, int arg, int... stack) {
        TurnTasks t = done(op, arg, stack);
        String what = "OP " + op + " ARG " + arg;
        Check.faultDue(what, t, 0, fault);
        Check.stackDue(what + " takes nothing", t, 0, stack);
        Check.due(what + " stays", t.about(0, 0), 100);
    }

    private static int[] ints(int... all) {
        return Check.ints(all);
    }

    /** "2 it takes more from the STACK than there is": with none, with one less than it takes, with just as many. */
    private static void withTooFew() {
        int[] takesOne = {2, 3, 11, 19, 21, 25, 26, 28, 30, 31, 33, 36, 39, 40, 41, 43, 45};
        for (int op : takesOne) {
            faults(2, op, 0);
        }
        int[] takesTwo = {4, 5, 6, 7, 8, 9, 10, 12, 13, 14, 15, 16, 17, 18, 27};
        for (int op : takesTwo) {
            faults(2, op, 0);
            faults(2, op, 0, 1);
            Check.due("OP " + op + " with two", done(op, 0, 1, 1).told(7), 0);
        }
        int[] justOne = {2, 3, 11, 19, 21, 25, 26, 28, 30, 31, 33, 36, 39};
        for (int op : justOne) {
            Check.due("OP " + op + " with one", done(op, 0, 0).told(7), 0);
        }
        int[] takesNone = {0, 1, 20, 22, 24, 29, 32, 34, 35, 37, 38, 42, 44};
        for (int op : takesNone) {
            Check.due("OP " + op + " with none", done(op, 0).told(7), 0);
        }
        faults(2, 23, 0);
    }

    /** "3 the STACK would have more than 24 by what comes": how many each OP leaves of 24, with an int in CHANNEL 0. */
    private static void withFullStack() {
        int[] after = {
            24, FAULTS, 23, FAULTS, 24, FAULTS, 23, 23, 23, 23, 23, 24, 23, 23, 23, 23, 23, 23, 23, 24,
            24, 23, 24, 24, FAULTS, 23, 24, 22, 24, 24, 23, 23, FAULTS, 24, FAULTS, FAULTS, 23, FAULTS, FAULTS, 23,
            23, 24, 24, 23, FAULTS, 24,
        };
        for (int op = 0; op < after.length; op++) {
            // TASK 0 has a RETURN and gives way until TASK 1 is OVER
            TurnTasks t = Check.before(Check.manyInts(24, 1), 22, 200);
            Check.load(t, 200, 29, 0, op, 0);
            Check.load(t, 300, 30, 0);
            t.spawn(300, 0);
            t.put(0, 8);
            t.run(3);
            Check.statesDue("before OP " + op, t, 1, 7);
            t.step();
            String what = "OP " + op + " with 24";
            Check.due(what + ": ints", t.about(0, 1), after[op] == FAULTS ? 24 : after[op]);
            Check.due(what + ": FAULTS", t.told(7), after[op] == FAULTS ? 1 : 0);
            Check.due(what + ": outcome", t.about(0, 6), after[op] == FAULTS ? -3 : op == 30 ? 1 : 0);
        }
    }

    /** "1 [ARG]": -8388608 to 8388607. */
    private static void argsThatCome() {
        int[] args = {0, 1, -1, 8388607, -8388608};
        for (int arg : args) {
            Check.stackDue("[ARG]", done(1, arg, 5), 0, 5, arg);
        }
        Check.stackDue("[ARG] behind the greatest", done(1, 8388608, 5), 0, 5, -8388608);
    }

    /** "(All wrap.)" */
    private static void sumsWrap() {
        leaves(6, ints(MAX, 1), MIN);
        leaves(6, ints(MAX, 0), MAX);
        leaves(6, ints(MIN, -1), MAX);
        leaves(6, ints(MIN, MIN), 0);
        leaves(7, ints(MIN, 1), MAX);
        leaves(7, ints(MIN, 0), MIN);
        leaves(7, ints(MAX, -1), MIN);
        leaves(7, ints(0, MIN), MIN);
        leaves(8, ints(MAX, 2), -2);
        leaves(8, ints(MIN, -1), MIN);
        leaves(8, ints(65536, 65536), 0);
        leaves(8, ints(46341, 46341), -2147479015);
        leaves(8, ints(46340, 46340), 2147395600);
        leaves(11, ints(MIN), MIN);
        leaves(11, ints(MIN + 1), MAX);
        leaves(11, ints(MAX), MIN + 1);
        leaves(11, ints(0), 0);
    }

    /** "9 [y / x], cut to 0; 10 [y % x]"; "4 by 0 divided". */
    private static void divisions() {
        faults(4, 9, 0, 7, 0);
        faults(4, 10, 0, 7, 0);
        faults(4, 9, 0, 0, 0);
        faults(4, 10, 0, MIN, 0);
        leaves(9, ints(7, 1), 7);
        leaves(9, ints(7, -1), -7);
        leaves(9, ints(0, 7), 0);
        leaves(9, ints(-7, 2), -3);
        leaves(9, ints(7, -2), -3);
        leaves(9, ints(-7, -2), 3);
        leaves(9, ints(MIN, -1), MIN);
        leaves(9, ints(MIN, 1), MIN);
        leaves(9, ints(MIN, MIN), 1);
        leaves(9, ints(MAX, MIN), 0);
        leaves(10, ints(7, 1), 0);
        leaves(10, ints(-7, 2), -1);
        leaves(10, ints(7, -2), 1);
        leaves(10, ints(-7, -2), -1);
        leaves(10, ints(MIN, -1), 0);
        leaves(10, ints(MIN, MAX), -1);
        leaves(10, ints(MAX, MIN), MAX);
    }

    /** "15 [y << x], by x's lowest five bits; 16 [y >> x] likewise." */
    private static void shifts() {
        int[] xs = {0, 1, 5, 30, 31, 32, 33, 63, 64, -1, -31, -32, -33, MIN, MAX};
        int[] by = {0, 1, 5, 30, 31, 0, 1, 31, 0, 31, 1, 0, 31, 0, 31};
        int[] powers = {1, 2, 32, 1 << 30, MIN};
        int[] shiftOf = {0, 1, 5, 30, 31};
        for (int i = 0; i < xs.length; i++) {
            for (int k = 0; k < shiftOf.length; k++) {
                if (by[i] == shiftOf[k]) {
                    leaves(15, ints(1, xs[i]), powers[k]);
                    leaves(16, ints(powers[k], xs[i]), by[i] == 31 ? -1 : 1);
                }
            }
        }
        leaves(15, ints(3, 31), MIN);
        leaves(16, ints(-8, 1), -4);
        leaves(16, ints(-8, 4), -1);
        leaves(16, ints(MIN, 31), -1);
        leaves(16, ints(MAX, 31), 0);
        leaves(16, ints(MAX, 30), 1);
        leaves(16, ints(-8, 32), -8);
    }

    /** "17 [1], if y < x, else [0]; 18 [1], if y = x, else [0]. 19 takes x: [1], if x is 0, else [0]." */
    private static void comparisons() {
        int[][] pairs = {{4, 5}, {5, 5}, {6, 5}, {MIN, MAX}, {MAX, MIN}, {-1, 0}, {0, -1}, {MIN, MIN}, {MAX, MAX}};
        for (int[] p : pairs) {
            leaves(17, p, p[0] < p[1] ? 1 : 0);
            leaves(18, p, p[0] == p[1] ? 1 : 0);
        }
        int[] xs = {0, 1, -1, 2, 256, MIN, MAX};
        for (int x : xs) {
            leaves(19, ints(x), x == 0 ? 1 : 0);
        }
        leaves(12, ints(MIN, -1), MIN);
        leaves(13, ints(MIN, MAX), -1);
        leaves(14, ints(-1, MAX), MIN);
    }

    /** "20 to 22 with an ARG that is not 0 to 511: FAULT 5 at once, of 21 also if it does not go." */
    private static void goesToPlaces() {
        int[] there = {0, 1, 510, 511};
        int[] none = {-1, 512, -512, 8388607, -8388608};
        for (int arg : there) {
            Check.due("20 to " + arg, done(20, arg, 7).about(0, 0), arg);
            Check.due("21 to " + arg, done(21, arg, 0).about(0, 0), arg);
            Check.due("21 not to " + arg, done(21, arg, 7).about(0, 0), 101);
            Check.due("22 to " + arg, done(22, arg, 7).about(0, 0), arg);
            Check.due("42 to " + arg, done(42, arg, 7).about(0, 3), arg);
        }
        for (int arg : none) {
            faults(5, 20, arg, 7);
            faults(5, 21, arg, 0);
            faults(5, 21, arg, 7);
            faults(5, 22, arg, 7);
            Check.due("22 has no RETURN", done(22, arg, 7).about(0, 2), 0);
            if (arg != -1) {
                faults(5, 42, arg, 7);
            }
        }
        Check.due("42 of -1 has no FAULT", done(42, -1, 7).told(7), 0);
    }

    /** "21 takes x: goes to ARG, if x is 0." */
    private static void goesIfZero() {
        int[] xs = {1, -1, 256, MIN, MAX};
        for (int x : xs) {
            TurnTasks t = done(21, 300, 7, x);
            Check.due("21 does not go by " + x, t.about(0, 0), 101);
            Check.stackDue("21 takes x", t, 0, 7);
        }
        TurnTasks t = done(21, 300, 7, 0);
        Check.due("21 goes by 0", t.about(0, 0), 300);
        Check.stackDue("21 takes 0", t, 0, 7);
    }

    /** "22 goes to ARG, the next PLACE is a RETURN. 23 goes to the latest RETURN, which goes." */
    private static void callsAndReturns() {
        TurnTasks last = new TurnTasks();
        Check.load(last, 511, 22, 0);
        Check.load(last, 0, 23, 0);
        last.spawn(511, 7);
        last.run(2);
        Check.due("RETURN to 512 is gone to", last.about(0, 0), 512);
        Check.due("and not asked yet", last.state(0), 1);
        last.step();
        Check.faultDue("it is asked when it is done", last, 0, 1);
        TurnTasks own = Check.before(ints(7), 22, 100);
        own.run(12);
        Check.due("twelve to its own place", own.about(0, 2), 12);
        Check.load(own, 100, 23, 0);
        own.step();
        Check.due("23 to the next PLACE", own.about(0, 0), 101);
        Check.due("eleven are left", own.about(0, 2), 11);
        Check.stackDue("the STACK is as it was", own, 0, 7);
        faults(2, 23, 0, Check.manyInts(24, 5));
    }

    /** "24 [MEMORY at ARG]. 25 takes x into MEMORY at ARG." */
    private static void memoryByArg() {
        int[] there = {0, 1, 62, 63};
        for (int arg : there) {
            TurnTasks t = done(25, arg, 7, -9);
            Check.due("25 at " + arg, t.memory(arg), -9);
            Check.stackDue("25 takes x", t, 0, 7);
            Check.load(t, 101, 24, arg);
            t.step();
            Check.stackDue("24 at " + arg, t, 0, 7, -9);
            Check.due("MEMORY stays", t.memory(arg), -9);
        }
        int[] none = {-1, 64, 8388607, -8388608};
        for (int arg : none) {
            faults(5, 24, arg, 7, -9);
            faults(5, 25, arg, 7, -9);
        }
        Check.due("25 with a FAULT", done(25, 64, 7).memory(63) + done(25, -1, 7).memory(0), 0);
    }

    /** "26 takes x: [MEMORY at x]. 27 takes x, y: y into MEMORY at x." */
    private static void memoryByInt() {
        int[] there = {0, 1, 62, 63};
        for (int x : there) {
            TurnTasks t = done(27, 0, 7, -9, x);
            Check.due("27 at " + x, t.memory(x), -9);
            Check.stackDue("27 takes both", t, 0, 7);
            Check.load(t, 101, 1, x, 26, 0);
            t.run(2);
            Check.stackDue("26 at " + x, t, 0, 7, -9);
        }
        int[] none = {-1, 64, MIN, MAX};
        for (int x : none) {
            faults(5, 26, 0, 7, x);
            faults(5, 27, 0, 7, -9, x);
        }
    }

    /** "28 takes x: a TASK is spawned at ARG, with x: [its number]." */
    private static void spawnsAtPlaces() {
        int[] there = {0, 511};
        for (int arg : there) {
            TurnTasks t = done(28, arg, 7, MIN);
            Check.stackDue("28 at " + arg, t, 0, 7, 1);
            Check.due("28 at " + arg + ": place", t.about(1, 0), arg);
            Check.due("28 at " + arg + ": state", t.state(1), 1);
            Check.stackDue("28 at " + arg + ": its int", t, 1, MIN);
        }
        int[] none = {-1, 512, 8388607, -8388608};
        for (int arg : none) {
            faults(5, 28, arg, 7, 8);
            TurnTasks t = done(28, arg, 7, 8);
            Check.due("none is spawned at " + arg, t.told(6), 1);
            Check.due("FREE", t.state(1), 0);
        }
    }

    /** "[-1]: none is not LIVE (FAULT 5 by ARG ahead)." */
    private static void spawnsWithAllLive() {
        for (int others = 10; others <= 11; others++) {
            for (int arg = 511; arg <= 512; arg++) {
                TurnTasks t = Check.before(ints(7, 8), 28, arg);
                Check.load(t, 300, 20, 300);
                Check.load(t, 511, 20, 511);
                for (int i = 0; i < others; i++) {
                    t.spawn(300, 0);
                }
                t.quantum(1);
                t.run(40);
                String what = "28 with " + (others + 1) + " LIVE at " + arg;
                if (arg == 512) {
                    Check.faultDue(what, t, 0, 5);
                    Check.stackDue(what, t, 0, 7, 8);
                } else {
                    Check.stackDue(what, t, 0, 7, others == 10 ? 11 : -1);
                    Check.due(what + ": FAULTS", t.told(7), 0);
                }
                Check.due(what + ": spawned", t.told(6), others + (arg == 511 && others == 10 ? 2 : 1));
            }
        }
    }

    /** "29 LEFT is 0." */
    private static void givesWay() {
        TurnTasks alone = Check.machine(29, 0, 20, 0);
        alone.spawn(0, 0);
        alone.step();
        Check.due("29: LEFT", alone.told(2), 0);
        alone.step();
        Check.due("29: itself again, a new QUANTUM", alone.told(2), 7);
        TurnTasks one = Check.machine(29, 0, 20, 0);
        one.quantum(1);
        one.spawn(0, 0);
        one.step();
        Check.due("29 with the last of its QUANTUM", one.told(2), 0);
    }

    /** "30 takes x: OVER, CODE x." */
    private static void endsWithAnyCode() {
        int[] xs = {0, 1, -1, -9, MIN, MAX};
        for (int x : xs) {
            TurnTasks t = done(30, 0, 7, x);
            Check.due("30: OVER", t.state(0), 7);
            Check.due("30: CODE", t.about(0, 6), x);
            Check.stackDue("30 takes x", t, 0, 7);
            Check.due("30: FAULTS", t.told(7), 0);
            Check.due("30: LIVE", t.told(4), 0);
        }
    }

    /** "45 takes x: [the int x below the uppermost one then] (FAULT 2: x is below 0, or there is none)." */
    private static void picks() {
        leaves(45, ints(5, 0), 5, 5);
        leaves(45, ints(5, 6, 7, 0), 5, 6, 7, 7);
        leaves(45, ints(5, 6, 7, 1), 5, 6, 7, 6);
        leaves(45, ints(5, 6, 7, 2), 5, 6, 7, 5);
        faults(2, 45, 0, 5, 6, 7, 3);
        faults(2, 45, 0, 5, 6, 7, 4);
        faults(2, 45, 0, 5, 6, 7, -1);
        faults(2, 45, 0, 5, 6, 7, MIN);
        faults(2, 45, 0, 5, 6, 7, MAX);
        faults(2, 45, 0, 0);
        faults(2, 45, 0, 5, 1);
        TurnTasks full = done(45, 0, Check.manyInts(24, 22));
        Check.due("45: the lowest of 23", full.stack(0, 23), 1000);
        faults(2, 45, 0, Check.manyInts(24, 23));
    }
}
