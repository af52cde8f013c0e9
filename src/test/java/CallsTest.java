/** Promises 1 to 9 and 12 to 20: the calls from outside, their edges and wrong inputs. */
public final class CallsTest {
    private static final int NOTHING_ABOUT = -1000000001;

    public static void main(String[] args) {
        newObject();
        pokeAndCode();
        words();
        spawns();
        spawnTakesLeastNotLive();
        quanta();
        sizes();
        putsAndTakes();
        latestAndStates();
        abouts();
        stacks();
        heldAndChannels();
        memories();
        records();
        tolds();
        Check.finish();
    }

    private static void newObject() {
        newCode();
        TurnTasks t = new TurnTasks();
        for (int i = -1; i <= 64; i++) {
            Check.due("new: memory " + i, t.memory(i), 0);
        }
        for (int i = 0; i < 12; i++) {
            Check.due("new: state " + i, t.state(i), 0);
            int[] dues = {0, 0, 0, -1, 0, 0, 0};
            for (int what = 0; what < 7; what++) {
                Check.due("new: about " + i + " " + what, t.about(i, what), dues[what]);
            }
            Check.due("new: stack " + i, t.stack(i, 0), 0);
        }
        for (int i = 0; i < 6; i++) {
            Check.due("new: held " + i, t.held(i), 0);
            Check.due("new: channel " + i, t.channel(i, 0), 0);
            Check.due("new: size " + i, t.size(i, 8), 4);
        }
        for (int what = 0; what < 8; what++) {
            Check.due("new: told " + what, t.told(what), 0);
        }
        Check.due("new: record", t.record(0), 0);
        Check.due("new: latest", t.latest(), 2);
        Check.due("new: quantum", t.quantum(8), 8);
    }

    /** By halves: an object is used for at most 512 calls. */
    private static void newCode() {
        for (int half = 0; half < 512; half += 256) {
            TurnTasks t = new TurnTasks();
            for (int i = half - 1; i <= half + 256; i++) {
                Check.due("new: code " + i, t.code(i), 0);
            }
        }
    }

    private static void pokeAndCode() {
        TurnTasks t = new TurnTasks();
        Check.due("poke(0, 7)", t.poke(0, 7), 0);
        Check.due("poke(0, -5)", t.poke(0, -5), 7);
        Check.due("code(0)", t.code(0), -5);
        Check.due("poke(511, MIN)", t.poke(511, Integer.MIN_VALUE), 0);
        Check.due("code(511)", t.code(511), Integer.MIN_VALUE);
        int[] none = {-1, 512, Integer.MIN_VALUE, Integer.MAX_VALUE};
        for (int place : none) {
            Check.due("poke(none)", t.poke(place, 9), 0);
            Check.due("code(none)", t.code(place), 0);
        }
        Check.due("code(0) after wrong pokes", t.code(0), -5);
        Check.due("code(511) after wrong pokes", t.code(511), Integer.MIN_VALUE);
    }

    private static void words() {
        TurnTasks t = new TurnTasks();
        Check.due("word(1, 3)", t.word(1, 3), 769);
        Check.due("word(0, 0)", t.word(0, 0), 0);
        Check.due("word(255, -1)", t.word(255, -1), -1);
        Check.due("word(1, -1)", t.word(1, -1), -255);
        Check.due("word(42, 8388607)", t.word(42, 8388607), 2147483434);
        Check.due("word(0, -8388608)", t.word(0, -8388608), Integer.MIN_VALUE);
        Check.due("word(5, 16777216)", t.word(5, 16777216), 5);
        Check.due("word(5, 16777217)", t.word(5, 16777217), 261);
        Check.due("word(-1, 3)", t.word(-1, 3), 0);
        Check.due("word(256, 3)", t.word(256, 3), 0);
        Check.due("word(MIN, MIN)", t.word(Integer.MIN_VALUE, Integer.MIN_VALUE), 0);
        // a word below 0 has an ARG that is cut downwards
        TurnTasks m = new TurnTasks();
        m.poke(0, -255);
        m.poke(1, -256 * 8388608 + 1);
        m.poke(2, -1);
        m.spawn(0, 6);
        m.run(2);
        Check.stackDue("ARG below 0", m, 0, 6, -1, -8388608);
        m.step();
        Check.faultDue("OP 255", m, 0, 1);
    }

    private static void spawns() {
        TurnTasks t = new TurnTasks();
        Check.due("spawn(-1, 0)", t.spawn(-1, 0), -2);
        Check.due("spawn(512, 0)", t.spawn(512, 0), -2);
        Check.due("no TASK of a wrong spawn", t.told(6), 0);
        for (int i = 0; i < 12; i++) {
            Check.due("spawn " + i, t.spawn(i == 0 ? 511 : i, 100 + i), i);
        }
        Check.due("spawn, all LIVE", t.spawn(0, 0), -4);
        Check.due("spawn(512), all LIVE", t.spawn(512, 0), -2);
        Check.due("spawned ever", t.told(6), 12);
        Check.due("place 511", t.about(0, 0), 511);
        Check.stackDue("its one int", t, 11, 111);
    }

    private static void spawnTakesLeastNotLive() {
        // TASK 0 dies with a STACK, RETURNS and a TRAP that is used up; TASK 2 has LINKS to 0 and 1
        TurnTasks t = Check.machine(22, 1, 42, 5, 1, 1, 30, 0);
        Check.load(t, 100, 43, 0, 1, 1, 43, 0, 29, 0, 20, 104);
        Check.load(t, 200, 0, 0, 20, 200);
        t.spawn(0, 77);
        t.spawn(200, 0);
        t.spawn(100, 0);
        t.run(24);
        Check.due("OVER", t.state(0), 7);
        Check.due("CODE", t.about(0, 6), 1);
        Check.due("RETURNS as then", t.about(0, 2), 1);
        Check.due("TRAP as then", t.about(0, 3), 5);
        Check.due("LINKS of 2", t.about(2, 4), 3);
        Check.due("spawn again", t.spawn(300, 5), 0);
        int[] dues = {300, 1, 0, -1, 0, 0, 0};
        for (int what = 0; what < 7; what++) {
            Check.due("about anew " + what, t.about(0, what), dues[what]);
        }
        Check.due("READY anew", t.state(0), 1);
        Check.due("int anew", t.stack(0, 0), 5);
        Check.due("the LINK to 0 is gone", t.about(2, 4), 2);
        linksGo();
    }

    private static void linksGo() {
        // TASKS 0 and 1 have LINKS to one another and are killed by 2; 0 is spawned anew, then 1
        TurnTasks t = Check.machine(43, 0, 32, 0);
        Check.load(t, 100, 32, 1, 40, 0, 20, 102);
        t.spawn(0, 1);
        t.spawn(0, 0);
        t.spawn(100, 0);
        t.run(20);
        Check.due("LINKS of 0", t.about(0, 4), 2);
        t.put(1, 0);
        t.run(20);
        Check.faultDue("TASK 1 by its LINK", t, 1, 8);
        t.spawn(1, 5);
        Check.due("no LINKS of the new 0", t.about(0, 4), 0);
        Check.due("no LINK to the new 0", t.about(1, 4), 0);
        // TASK 0 has a LINK to an OVER one, whose number is given anew
        TurnTasks first = Check.machine(43, 0, 20, 1);
        Check.load(first, 10, 30, 0);
        first.spawn(0, 1);
        first.spawn(10, 0);
        first.run(2);
        Check.due("LINK to an OVER one", first.about(0, 4), 2);
        first.spawn(10, 0);
        Check.due("the LINK of TASK 0 is gone", first.about(0, 4), 0);
    }

    private static void quanta() {
        TurnTasks t = Check.machine(0, 0, 0, 0, 0, 0, 20, 0);
        t.spawn(0, 0);
        t.spawn(0, 0);
        int[] wrong = {0, 51, -1, Integer.MIN_VALUE, Integer.MAX_VALUE};
        for (int n : wrong) {
            Check.due("quantum(" + n + ")", t.quantum(n), -2);
        }
        Check.due("quantum(50)", t.quantum(50), 8);
        t.step();
        Check.due("LEFT by 50", t.told(2), 49);
        Check.due("quantum(1)", t.quantum(1), 50);
        Check.due("LEFT stays", t.told(2), 49);
        t.run(49);
        Check.due("TURN after 50", t.told(1), 1);
        t.step();
        Check.due("TURN after 51", t.told(1), 0);
        Check.due("LEFT by 1", t.told(2), 0);
        t.step();
        Check.due("TURN after 52", t.told(1), 1);
    }

    private static void sizes() {
        TurnTasks t = new TurnTasks();
        Check.due("size(-1, 0)", t.size(-1, 0), -1);
        Check.due("size(6, 3)", t.size(6, 3), -1);
        Check.due("size(0, 0)", t.size(0, 0), -2);
        Check.due("size(0, 9)", t.size(0, 9), -2);
        Check.due("size(5, 8)", t.size(5, 8), 4);
        Check.due("size(5, 1)", t.size(5, 1), 8);
        Check.due("put", t.put(5, 3), 1);
        Check.due("put full", t.put(5, 3), -4);
        Check.due("size(5, 2)", t.size(5, 2), 1);
        Check.due("put again", t.put(5, 4), 2);
        Check.due("size less than held", t.size(5, 1), -2);
        Check.due("size as held", t.size(5, 2), 2);
        Check.due("still full", t.put(5, 4), -4);
    }

    private static void putsAndTakes() {
        TurnTasks t = new TurnTasks();
        Check.due("put(-1)", t.put(-1, 3), -1);
        Check.due("put(6)", t.put(6, 3), -1);
        Check.due("take(-1)", t.take(-1), 0);
        Check.due("take(6)", t.take(6), 0);
        Check.due("take empty", t.take(0), 0);
        t.size(0, 8);
        for (int i = 1; i <= 8; i++) {
            Check.due("put " + i, t.put(0, -i), i);
        }
        Check.due("put, full", t.put(0, 9), -4);
        for (int i = 1; i <= 8; i++) {
            Check.due("take " + i, t.take(0), -i);
            Check.due("held after take " + i, t.held(0), 8 - i);
        }
        Check.due("take, empty again", t.take(0), 0);
        Check.due("held, empty again", t.held(0), 0);
        Check.due("CHANNEL 1 is another", t.put(1, 5), 1);
        Check.due("CHANNEL 0 is untouched", t.held(0), 0);
    }

    private static void latestAndStates() {
        TurnTasks t = Check.machine(36, 0, 32, 0, 20, 1);
        Check.due("latest without a STEP", t.latest(), 2);
        t.spawn(0, 1);
        Check.due("latest, none yet", t.latest(), 2);
        t.step();
        Check.due("latest RAN", t.latest(), 0);
        t.step();
        Check.due("latest LATER", t.latest(), 1);
        t.run(9);
        Check.due("latest DEAD", t.latest(), 3);
        t.run(0);
        Check.due("latest stays", t.latest(), 3);
        Check.due("state RECEIVES", t.state(0), 3);
        Check.due("state FREE", t.state(11), 0);
        Check.due("state(-1)", t.state(-1), -1);
        Check.due("state(12)", t.state(12), -1);
    }

    private static void abouts() {
        TurnTasks t = Check.machine(42, 9, 22, 2, 1, 5, 36, 0);
        t.spawn(0, 44);
        t.run(4);
        int[] dues = {4, 1, 1, 9, 0, 9, 0};
        for (int what = 0; what < 7; what++) {
            Check.due("about " + what, t.about(0, what), dues[what]);
        }
        Check.due("about what -1", t.about(0, -1), NOTHING_ABOUT);
        Check.due("about what 7", t.about(0, 7), NOTHING_ABOUT);
        Check.due("about TASK -1", t.about(-1, 0), NOTHING_ABOUT);
        Check.due("about TASK 12", t.about(12, 0), NOTHING_ABOUT);
        t.run(5);
        Check.due("SLEEPS until the STEP", t.state(0), 5);
        Check.due("hour until the STEP", t.about(0, 5), 9);
        t.step();
        Check.due("no hour when awake", t.about(0, 5), 0);
    }

    private static void stacks() {
        TurnTasks t = Check.machine(1, 7, 1, -8);
        t.spawn(0, 6);
        t.run(2);
        Check.stackDue("stack", t, 0, 6, 7, -8);
        Check.due("stack(0, 3)", t.stack(0, 3), 0);
        Check.due("stack(0, -1)", t.stack(0, -1), 0);
        Check.due("stack(0, 24)", t.stack(0, 24), 0);
        Check.due("stack(-1, 0)", t.stack(-1, 0), 0);
        Check.due("stack(12, 0)", t.stack(12, 0), 0);
        Check.load(t, 2, 2, 0);
        t.step();
        Check.due("a taken int is gone", t.stack(0, 2), 0);
    }

    private static void heldAndChannels() {
        TurnTasks t = new TurnTasks();
        t.put(3, 10);
        t.put(3, 11);
        Check.due("held(3)", t.held(3), 2);
        Check.due("held(-1)", t.held(-1), -1);
        Check.due("held(6)", t.held(6), -1);
        Check.due("channel(3, 0)", t.channel(3, 0), 10);
        Check.due("channel(3, 1)", t.channel(3, 1), 11);
        Check.due("channel(3, 2)", t.channel(3, 2), 0);
        Check.due("channel(3, -1)", t.channel(3, -1), 0);
        Check.due("channel(3, 8)", t.channel(3, 8), 0);
        Check.due("channel(-1, 0)", t.channel(-1, 0), 0);
        Check.due("channel(6, 0)", t.channel(6, 0), 0);
        t.take(3);
        Check.due("channel(3, 0) behind a take", t.channel(3, 0), 11);
        Check.due("channel(3, 1) behind a take", t.channel(3, 1), 0);
    }

    private static void memories() {
        TurnTasks t = Check.machine(25, 0, 1, 8, 25, 63);
        t.spawn(0, -4);
        t.run(3);
        Check.due("memory(0)", t.memory(0), -4);
        Check.due("memory(63)", t.memory(63), 8);
        Check.due("memory(-1)", t.memory(-1), 0);
        Check.due("memory(64)", t.memory(64), 0);
    }

    private static void records() {
        TurnTasks t = Check.machine(3, 0, 39, 0, 1, 1, 6, 0, 20, 0);
        t.spawn(0, 1);
        t.run(5 * 310);
        Check.due("printed", t.told(3), 310);
        Check.due("record(0)", t.record(0), 1);
        Check.due("record(299)", t.record(299), 300);
        Check.due("record(300)", t.record(300), 0);
        Check.due("record(-1)", t.record(-1), 0);
        Check.due("record(MAX)", t.record(Integer.MAX_VALUE), 0);
        TurnTasks few = Check.machine(39, 0);
        few.spawn(0, 5);
        few.step();
        Check.recordDue("one printed", few, 5);
        Check.due("record(1), none", few.record(1), 0);
    }

    private static void tolds() {
        TurnTasks t = Check.machine(36, 0, 32, 0);
        Check.load(t, 100, 42, 102, 2, 0, 30, 0);
        Check.load(t, 200, 29, 0, 20, 200);
        t.spawn(0, 500);
        t.spawn(1, 0);
        t.spawn(100, 0);
        t.spawn(200, 0);
        Check.due("READY at first", t.told(5), 4);
        t.step();
        Check.due("TURN", t.told(1), 1);
        Check.due("LEFT", t.told(2), 7);
        t.run(4);
        Check.due("TIME", t.told(0), 5);
        Check.due("TURN later", t.told(1), 2);
        Check.due("LEFT later", t.told(2), 4);
        t.step();
        Check.due("TURN of one that gave way", t.told(1), 3);
        Check.due("LEFT of one that gave way", t.told(2), 0);
        Check.due("LIVE", t.told(4), 3);
        Check.due("READY", t.told(5), 2);
        Check.due("spawned", t.told(6), 4);
        Check.due("FAULTS, a TRAPPED one", t.told(7), 1);
        Check.due("printed", t.told(3), 0);
        Check.due("told(-1)", t.told(-1), -2);
        Check.due("told(8)", t.told(8), -2);
    }
}
