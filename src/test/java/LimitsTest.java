/** Section 1: how much there is of each thing, at the last that there is and at the first that there is not. */
public final class LimitsTest {
    private static final int MIN = Integer.MIN_VALUE, MAX = Integer.MAX_VALUE;

    public static void main(String[] args) {
        codeHas512Words();
        memoryHas64Ints();
        opsOfWords();
        argsOfWords();
        tasksAreTwelve();
        stackHas24Ints();
        returnsAreTwelve();
        trapIsAPlaceOrNone();
        channelsAreSix();
        sizeIsFourAtFirst();
        sizeIsOneToEight();
        channelsKeepOrder();
        recordKeeps300();
        statesAndLive();
        spawnTakesTheLeastNotLive();
        spawnForgetsWhatWas();
        spawnDropsLinksOfOthers();
        timeIsOfRanAndLater();
        Check.finish();
    }

    /** "CODE has 512 words": each of its own. */
    private static void codeHas512Words() {
        for (int part = 0; part < 512; part += 128) {
            TurnTasks t = new TurnTasks();
            for (int place = part; place < part + 128; place++) {
                Check.due("poke " + place, t.poke(place, ~place), 0);
            }
            for (int place = part; place < part + 128; place++) {
                Check.due("code " + place, t.code(place), ~place);
            }
            Check.due("code -1", t.code(-1), 0);
            Check.due("code 512", t.code(512), 0);
        }
        TurnTasks last = new TurnTasks();
        Check.load(last, 511, 1, 6);
        last.spawn(511, 0);
        last.step();
        Check.stackDue("the OP at 511 is done", last, 0, 0, 6);
        Check.due("the next PLACE is 512", last.about(0, 0), 512);
        Check.due("which is not asked yet", last.state(0), 1);
        last.step();
        Check.faultDue("there is no PLACE 512", last, 0, 1);
    }

    /** "MEMORY 64 ints": each i gets i + 1, until there is none such. */
    private static void memoryHas64Ints() {
        TurnTasks t = Check.machine(3, 0, 3, 0, 1, 1, 6, 0, 4, 0, 27, 0, 1, 1, 6, 0, 20, 0);
        t.spawn(0, 0);
        Check.due("STEPS until there is no MEMORY", t.run(5000), 64 * 9 + 6);
        for (int place = 0; place < 64; place++) {
            Check.due("memory " + place, t.memory(place), place + 1);
        }
        Check.due("memory -1", t.memory(-1), 0);
        Check.due("memory 64", t.memory(64), 0);
        Check.faultDue("MEMORY at 64", t, 0, 5);
        Check.stackDue("which takes nothing", t, 0, 64, 65, 64);
    }

    private static TurnTasks doneWord(int word) {
        TurnTasks t = new TurnTasks();
        t.poke(0, word);
        t.spawn(0, 7);
        t.step();
        return t;
    }

    /** "The OP is 0 to 255 also of a word below 0." */
    private static void opsOfWords() {
        int[] nothings = {0, 256, -256, MIN, MAX - 255};
        for (int word : nothings) {
            TurnTasks t = doneWord(word);
            Check.due("OP 0 of " + word + ": state", t.state(0), 1);
            Check.due("OP 0 of " + word + ": place", t.about(0, 0), 1);
            Check.stackDue("OP 0 of " + word, t, 0, 7);
        }
        int[] noOps = {46, 47, 128, 255, 46 + 256, 46 - 256, -1, -128, MAX, MIN + 46, MIN + 255};
        for (int word : noOps) {
            Check.faultDue("no OP of " + word, doneWord(word), 0, 1);
        }
        int[] picks = {45, 45 + 256, 45 - 256, MIN + 45};
        for (int word : picks) {
            // OP 45, the last that there is, finds too few ints
            Check.faultDue("OP 45 of " + word, doneWord(word), 0, 2);
        }
    }

    /** "An ARG, w / 256 cut downwards (-8388608 to 8388607)." */
    private static void argsOfWords() {
        int[] words = {1, 257, -255, -511, MIN + 1, MIN + 257, MAX - 254, MAX - 510};
        int[] argsDue = {0, 1, -1, -2, -8388608, -8388607, 8388607, 8388606};
        for (int i = 0; i < words.length; i++) {
            Check.stackDue("ARG of " + words[i], doneWord(words[i]), 0, 7, argsDue[i]);
            Check.due("word(1, " + argsDue[i] + ")", new TurnTasks().word(1, argsDue[i]), words[i]);
        }
        TurnTasks t = new TurnTasks();
        Check.due("ARG's lowest 24 bits, 8388608", t.word(1, 8388608), MIN + 1);
        Check.due("ARG's lowest 24 bits, -8388609", t.word(1, -8388609), MAX - 254);
        Check.due("ARG's lowest 24 bits, 16777215", t.word(1, 16777215), -255);
        Check.due("ARG's lowest 24 bits, 16777216", t.word(1, 16777216), 1);
        Check.due("ARG's lowest 24 bits, MAX", t.word(1, MAX), -255);
        Check.due("ARG's lowest 24 bits, MIN", t.word(1, MIN), 1);
    }

    /** "TASKS 0 to 11 are FREE at first." */
    private static void tasksAreTwelve() {
        TurnTasks t = new TurnTasks();
        for (int i = 0; i < 12; i++) {
            Check.due("FREE at first " + i, t.state(i), 0);
        }
        Check.due("no TASK -1", t.state(-1), -1);
        Check.due("no TASK 12", t.state(12), -1);
        for (int i = 0; i < 12; i++) {
            Check.due("spawn " + i, t.spawn(i, 100 + i), i);
            Check.due("LIVE " + i, t.told(4), i + 1);
        }
        Check.due("no thirteenth", t.spawn(0, 0), -4);
        for (int i = 0; i < 12; i++) {
            Check.due("place " + i, t.about(i, 0), i);
            Check.stackDue("its one int " + i, t, i, 100 + i);
        }
    }

    /** "A STACK of up to 24 ints." */
    private static void stackHas24Ints() {
        TurnTasks t = Check.machine(1, 7, 20, 0);
        t.spawn(0, 5);
        t.run(46);
        Check.due("24 ints", t.about(0, 1), 24);
        Check.due("READY with 24", t.state(0), 1);
        t.step();
        Check.faultDue("no 25th", t, 0, 3);
        Check.due("still 24", t.about(0, 1), 24);
        Check.due("the lowest", t.stack(0, 0), 5);
        Check.due("the 24th", t.stack(0, 23), 7);
        Check.due("the 25th", t.stack(0, 24), 0);
        Check.due("the one below the lowest", t.stack(0, -1), 0);
    }

    /** "Up to 12 RETURNS": the latest goes first. */
    private static void returnsAreTwelve() {
        TurnTasks t = new TurnTasks();
        for (int i = 0; i < 13; i++) {
            Check.load(t, i, 22, i + 1);
        }
        t.spawn(0, 5);
        t.run(12);
        Check.due("12 RETURNS", t.about(0, 2), 12);
        for (int i = 1; i <= 12; i++) {
            Check.load(t, i, 23, 0);
        }
        for (int i = 12; i >= 1; i--) {
            t.step();
            Check.due("RETURN " + i, t.about(0, 0), i);
            Check.due("RETURNS left " + i, t.about(0, 2), i - 1);
        }
        t.step();
        Check.faultDue("there is no RETURN more", t, 0, 2);
        TurnTasks more = Check.machine(22, 0);
        more.spawn(0, 5);
        more.run(12);
        Check.due("READY with 12", more.state(0), 1);
        more.step();
        Check.faultDue("no 13th", more, 0, 3);
        Check.due("still 12", more.about(0, 2), 12);
    }

    /** "A TRAP (a place, or none)": place 0 is one. */
    private static void trapIsAPlaceOrNone() {
        int[] places = {0, 511};
        for (int place : places) {
            TurnTasks t = Check.machine(0, 0, 42, place, 46, 0);
            t.spawn(1, 5);
            Check.due("no TRAP at first", t.about(0, 3), -1);
            t.run(2);
            Check.due("trapped at " + place, t.about(0, 0), place);
            Check.due("READY at " + place, t.state(0), 1);
        }
        TurnTasks none = Check.machine(42, 9, 42, -1, 46, 0);
        none.spawn(0, 5);
        none.run(3);
        Check.faultDue("TRAP is none again", none, 0, 1);
    }

    /** "CHANNELS 0 to 5", each of its own. */
    private static void channelsAreSix() {
        TurnTasks t = new TurnTasks();
        for (int c = 0; c < 6; c++) {
            Check.due("put " + c, t.put(c, 50 + c), 1);
        }
        Check.due("put -1", t.put(-1, 5), -1);
        Check.due("put 6", t.put(6, 5), -1);
        for (int c = 0; c < 6; c++) {
            Check.channelDue("CHANNEL " + c, t, c, 50 + c);
            Check.due("take " + c, t.take(c), 50 + c);
            Check.due("held " + c, t.held(c), 0);
        }
        Check.due("held -1", t.held(-1), -1);
        Check.due("held 6", t.held(6), -1);
    }

    /** "Their SIZE (1 to 8; 4 at first)." */
    private static void sizeIsFourAtFirst() {
        for (int c = 0; c < 6; c++) {
            TurnTasks t = new TurnTasks();
            for (int i = 1; i <= 4; i++) {
                Check.due("put " + i + " to " + c, t.put(c, i), i);
            }
            Check.due("no fifth to " + c, t.put(c, 5), -4);
            Check.due("SIZE of " + c, t.size(c, 5), 4);
            Check.due("a fifth to " + c, t.put(c, 5), 5);
        }
    }

    private static void sizeIsOneToEight() {
        for (int n = 1; n <= 8; n++) {
            TurnTasks t = new TurnTasks();
            Check.due("size(2, " + n + ")", t.size(2, n), 4);
            for (int i = 1; i <= n; i++) {
                Check.due("SIZE " + n + " put " + i, t.put(2, -i), i);
            }
            Check.due("SIZE " + n + ", full", t.put(2, 9), -4);
            Check.due("SIZE " + n + ", held", t.held(2), n);
            Check.due("SIZE " + n + ", the last", t.channel(2, n - 1), -n);
            Check.due("SIZE " + n + ", behind the last", t.channel(2, n), 0);
            Check.due("SIZE " + n + " to one less than it holds", t.size(2, n - 1), -2);
            Check.due("SIZE " + n + " to as many as it holds", t.size(2, n), n);
            t.take(2);
            Check.due("SIZE " + n + ", one free", t.size(2, Math.max(1, n - 1)), n);
        }
        TurnTasks t = new TurnTasks();
        Check.due("no SIZE 0", t.size(2, 0), -2);
        Check.due("no SIZE 9", t.size(2, 9), -2);
    }

    /** "In order": whether they come and go from outside or by OPS. */
    private static void channelsKeepOrder() {
        TurnTasks t = Check.machine(31, 2, 1, 13, 33, 2, 2, 0, 32, 2, 34, 2);
        t.put(2, 11);
        t.spawn(0, 12);
        t.run(4);
        t.put(2, 14);
        Check.channelDue("as they came", t, 2, 11, 12, 13, 14);
        Check.due("the first goes out", t.take(2), 11);
        t.run(2);
        Check.stackDue("then the next ones", t, 0, 12, 13, 1);
        t.put(2, 15);
        Check.channelDue("behind that", t, 2, 14, 15);
    }

    /** "300 kept, the others counted." */
    private static void recordKeeps300() {
        TurnTasks t = Check.machine(3, 0, 39, 0, 1, 1, 6, 0, 20, 0);
        t.spawn(0, 1);
        t.run(299 * 5);
        Check.due("299 printed", t.told(3), 299);
        Check.due("the 299th", t.record(298), 299);
        Check.due("no 300th yet", t.record(299), 0);
        t.run(5);
        Check.due("300 printed", t.told(3), 300);
        Check.due("the 300th", t.record(299), 300);
        t.run(5);
        Check.due("301 printed", t.told(3), 301);
        Check.due("the 300th stays", t.record(299), 300);
        Check.due("the 301st is not kept", t.record(300), 0);
        Check.due("the first stays", t.record(0), 1);
        t.run(5 * 400);
        Check.due("701 printed", t.told(3), 701);
        for (int i = 0; i < 300; i++) {
            Check.due("record " + i, t.record(i), i + 1);
        }
        Check.due("READY all the while", t.state(0), 1);
    }

    /** "STATES: 0 FREE .. 8 FAULTED. LIVE are 1 to 6." */
    private static void statesAndLive() {
        TurnTasks t = Check.busy();
        Check.statesDue("all STATES", t, 7, 8, 2, 3, 4, 5, 6, 1, 0, 0, 0, 0);
        Check.due("LIVE ones", t.told(4), 6);
        Check.due("READY ones", t.told(5), 1);
        Check.due("OVER with its CODE", t.about(0, 6), 5);
        Check.due("FAULTED with its FAULT", t.about(1, 6), -1);
        for (int i = 2; i < 12; i++) {
            Check.due("neither: " + i, t.about(i, 6), 0);
        }
    }

    /** "The least number of all that are not LIVE": no LIVE one is taken, whatever it waits for. */
    private static void spawnTakesTheLeastNotLive() {
        TurnTasks t = Check.busy();
        int[] dues = {0, 1, 8, 9, 10, 11, -4, -4};
        for (int due : dues) {
            Check.due("spawn", t.spawn(300, 3), due);
        }
        Check.statesDue("LIVE ones stay", t, 1, 1, 2, 3, 4, 5, 6, 1, 1, 1, 1, 1);
        Check.due("spawned ever", t.told(6), 14);
        Check.due("LIVE ones", t.told(4), 12);
    }

    /** "What it had before is gone": STACK, RETURNS, TRAP, LINKS, CODE or FAULT. */
    private static void spawnForgetsWhatWas() {
        TurnTasks t = Check.machine(42, 300, 1, 1, 43, 0, 22, 4, 1, 6, 1, 9, 30, 0);
        Check.load(t, 200, 32, 0);
        t.spawn(0, 5);
        t.spawn(200, 5);
        t.run(40);
        int[] then = {7, 2, 1, 300, 2, 0, 9};
        aboutDue("of the OVER one", t, then);
        Check.stackDue("of the OVER one", t, 0, 5, 6);
        Check.load(t, 400, 23, 0);
        Check.due("its number again", t.spawn(400, -3), 0);
        int[] anew = {400, 1, 0, -1, 0, 0, 0};
        aboutDue("of the new one", t, anew);
        Check.stackDue("of the new one", t, 0, -3);
        Check.due("no second int", t.stack(0, 1), 0);
        t.run(40);
        Check.faultDue("no RETURN, no TRAP", t, 0, 2);
        t.spawn(300, 4);
        Check.due("no FAULT of the next", t.about(0, 6), 0);
    }

    private static void aboutDue(String what, TurnTasks t, int[] dues) {
        for (int i = 0; i < dues.length; i++) {
            Check.due(what + ": about " + i, t.about(0, i), dues[i]);
        }
    }

    /** "Others' LINKS to that number go, too": the new one's FAULT is none of theirs. */
    private static void spawnDropsLinksOfOthers() {
        TurnTasks t = Check.machine(43, 0, 1, 2, 43, 0, 32, 0);
        Check.load(t, 100, 32, 1, 30, 0);
        Check.load(t, 200, 46, 0);
        t.spawn(0, 1);
        t.spawn(100, 5);
        t.spawn(100, 6);
        t.run(40);
        Check.due("LINKS to 1 and 2", t.about(0, 4), 6);
        t.put(1, 8);
        t.run(40);
        Check.statesDue("1 or 2 is OVER", t, 3, 7, 3);
        Check.due("the LINK stays", t.about(0, 4), 6);
        Check.due("its number again", t.spawn(200, 0), 1);
        Check.due("the LINK to it goes, no other", t.about(0, 4), 4);
        t.run(40);
        Check.faultDue("the new one", t, 1, 1);
        Check.due("who had a LINK stays", t.state(0), 3);
        Check.due("FAULTS", t.told(7), 1);
    }

    /** "TIME is how many STEPS were told ever but DEAD and IDLE ones." */
    private static void timeIsOfRanAndLater() {
        TurnTasks t = Check.machine(36, 0, 32, 0, 46, 0);
        t.step();
        Check.due("IDLE", t.latest(), 2);
        Check.due("TIME of IDLE", t.told(0), 0);
        t.spawn(0, 1);
        t.step();
        Check.due("TIME of RAN", t.told(0), 1);
        t.step();
        Check.due("LATER", t.latest(), 1);
        Check.due("TIME of LATER", t.told(0), 2);
        t.step();
        Check.due("TIME of RAN that waits", t.told(0), 3);
        t.step();
        Check.due("DEAD", t.latest(), 3);
        Check.due("TIME of DEAD", t.told(0), 3);
        t.put(0, 1);
        t.run(2);
        Check.due("FAULTED", t.state(0), 8);
        Check.due("TIME of RAN with a FAULT", t.told(0), 5);
        t.run(3);
        Check.due("IDLE again", t.latest(), 2);
        Check.due("TIME of IDLE again", t.told(0), 5);
    }
}
