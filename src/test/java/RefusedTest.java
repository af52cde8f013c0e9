/** Ahead of section 1: which calls are refused, with what answer, which is first, and that they change nothing. */
public final class RefusedTest {
    private static final int MIN = Integer.MIN_VALUE, MAX = Integer.MAX_VALUE;
    private static final int NOTHING_ABOUT = -1000000001;

    private interface Call {
        int on(TurnTasks t);
    }

    public static void main(String[] args) {
        pokesAndCodes();
        words();
        spawns();
        spawnsWithAllLive();
        quanta();
        sizes();
        puts();
        takes();
        runs();
        states();
        abouts();
        stacks();
        helds();
        channels();
        memories();
        records();
        tolds();
        refusedBeforeAnything();
        Check.finish();
    }

    /** All that can be asked of a busy machine, but for most of CODE. */
    private static String picture(TurnTasks t, int quantum) {
        StringBuilder all = new StringBuilder();
        for (int task = 0; task < 12; task++) {
            all.append(" T").append(t.state(task));
            for (int what = 0; what < 7; what++) {
                all.append(',').append(t.about(task, what));
            }
            all.append(',').append(t.stack(task, 0)).append(',').append(t.stack(task, 1));
        }
        for (int channel = 0; channel < 6; channel++) {
            int held = t.held(channel);
            all.append(" C").append(held).append(',').append(t.size(channel, channel == 1 ? 2 : 4));
            for (int i = 0; i < held; i++) {
                all.append(',').append(t.channel(channel, i));
            }
        }
        for (int what = 0; what < 8; what++) {
            all.append(" t").append(t.told(what));
        }
        int[] places = {0, 7, 63, 70, 511};
        for (int place : places) {
            all.append(" p").append(t.code(place)).append(',').append(t.memory(place));
        }
        all.append(" R").append(t.record(0)).append(',').append(t.record(1));
        return all.append(" L").append(t.latest()).append(" Q").append(t.quantum(quantum)).toString();
    }

    private static void refused(String what, int answer, Call call) {
        refusedBy(Check.busy(), what, answer, call);
    }

    private static void refusedBy(TurnTasks t, String what, int answer, Call call) {
        // what the picture sets anew must be so before
        t.quantum(6);
        t.size(1, 2);
        String before = picture(t, 6);
        Check.due(what, call.on(t), answer);
        Check.sameDue("after " + what + " all", picture(t, 6), before);
    }

    private static void pokesAndCodes() {
        int[] none = {-1, 512, MIN, MAX};
        for (int place : none) {
            refused("poke(" + place + ", 9)", 0, t -> t.poke(place, 9));
            refused("code(" + place + ")", 0, t -> t.code(place));
        }
        TurnTasks t = Check.busy();
        Check.due("poke(511, 9)", t.poke(511, 9), 0);
        Check.due("poke(511, 8), the last place", t.poke(511, 8), 9);
        Check.due("poke(0, 9), the first place", t.poke(0, 9), 30);
        Check.due("code(0)", t.code(0), 9);
        Check.due("code(511)", t.code(511), 8);
    }

    private static void words() {
        int[] none = {-1, 256, MIN, MAX};
        for (int op : none) {
            refused("word(" + op + ", 1)", 0, t -> t.word(op, 1));
        }
        TurnTasks t = new TurnTasks();
        Check.due("word(0, 1), the first OP", t.word(0, 1), 256);
        Check.due("word(255, 1), the last OP", t.word(255, 1), 511);
        Check.due("word(46, 1): a word without such an OP to do", t.word(46, 1), 302);
    }

    private static void spawns() {
        int[] none = {-1, 512, MIN, MAX};
        for (int place : none) {
            refused("spawn(" + place + ", 3)", -2, t -> t.spawn(place, 3));
        }
        TurnTasks t = Check.busy();
        Check.due("spawn(0, 3), the first place", t.spawn(0, 3), 0);
        Check.due("spawn(511, 3), the last place", t.spawn(511, 3), 1);
    }

    private static TurnTasks live(int many) {
        TurnTasks t = Check.machine(20, 0);
        for (int i = 0; i < many; i++) {
            t.spawn(0, i);
        }
        return t;
    }

    private static void spawnsWithAllLive() {
        Check.due("spawn with 11 LIVE ones", live(11).spawn(0, 3), 11);
        refusedBy(live(12), "spawn with 12 LIVE ones", -4, t -> t.spawn(0, 3));
        refusedBy(live(12), "spawn at 511 with 12 LIVE ones", -4, t -> t.spawn(511, 3));
        refusedBy(live(12), "OUTSIDE ahead of FULL, -1", -2, t -> t.spawn(-1, 3));
        refusedBy(live(12), "OUTSIDE ahead of FULL, 512", -2, t -> t.spawn(512, 3));
    }

    private static void quanta() {
        int[] wrong = {0, 51, -1, MIN, MAX};
        for (int n : wrong) {
            refused("quantum(" + n + ")", -2, t -> t.quantum(n));
        }
        TurnTasks t = new TurnTasks();
        Check.due("quantum(1), the least", t.quantum(1), 8);
        Check.due("quantum(50), the greatest", t.quantum(50), 1);
        Check.due("quantum(8)", t.quantum(8), 50);
    }

    private static void sizes() {
        int[] none = {-1, 6, MIN, MAX};
        for (int channel : none) {
            refused("size(" + channel + ", 4)", -1, t -> t.size(channel, 4));
            refused("UNKNOWN ahead of OUTSIDE, size(" + channel + ", 0)", -1, t -> t.size(channel, 0));
            refused("UNKNOWN ahead of OUTSIDE, size(" + channel + ", 9)", -1, t -> t.size(channel, 9));
        }
        int[] wrong = {0, 9, -1, MIN, MAX};
        for (int n : wrong) {
            refused("size(0, " + n + ")", -2, t -> t.size(0, n));
            refused("size(5, " + n + ")", -2, t -> t.size(5, n));
        }
        refused("size(1, 1), less than it holds", -2, t -> t.size(1, 1));
        TurnTasks t = Check.busy();
        Check.due("size(1, 2), as it holds", t.size(1, 2), 2);
        Check.due("size(0, 1), the least", t.size(0, 1), 4);
        Check.due("size(0, 8), the greatest", t.size(0, 8), 1);
        Check.due("size(5, 8), the last CHANNEL", t.size(5, 8), 4);
        Check.due("size(5, 1)", t.size(5, 1), 8);
    }

    private static void puts() {
        int[] none = {-1, 6, MIN, MAX};
        for (int channel : none) {
            refused("put(" + channel + ", 3)", -1, t -> t.put(channel, 3));
        }
        refused("put to a full CHANNEL", -4, t -> t.put(1, 3));
        TurnTasks t = Check.busy();
        Check.due("put(0, 3), the first CHANNEL", t.put(0, 3), 1);
        Check.due("put(5, 3), the last CHANNEL", t.put(5, 3), 1);
        t.take(1);
        Check.due("put where one is free", t.put(1, 3), 2);
        Check.due("put where none is free any more", t.put(1, 3), -4);
    }

    private static void takes() {
        int[] none = {-1, 6, MIN, MAX};
        for (int channel : none) {
            refused("take(" + channel + ")", 0, t -> t.take(channel));
        }
        refused("take of an empty CHANNEL", 0, t -> t.take(0));
        refused("take of the last CHANNEL, which is empty", 0, t -> t.take(5));
        TurnTasks t = Check.busy();
        Check.due("take of a full CHANNEL", t.take(1), 81);
        Check.due("take of the last int", t.take(1), 82);
        Check.due("take of none", t.take(1), 0);
    }

    private static void runs() {
        int[] wrong = {-1, 5001, MIN, MAX};
        for (int n : wrong) {
            refused("run(" + n + ")", -2, t -> t.run(n));
        }
        refused("run(0), which does no STEP", 0, t -> t.run(0));
        Check.due("run(1)", Check.busy().run(1), 1);
        Check.due("run(5000)", Check.busy().run(5000), 5000);
    }

    private static void states() {
        int[] none = {-1, 12, MIN, MAX};
        for (int task : none) {
            refused("state(" + task + ")", -1, t -> t.state(task));
        }
        Check.due("state(0)", Check.busy().state(0), 7);
        Check.due("state(11)", Check.busy().state(11), 0);
    }

    private static void abouts() {
        int[] none = {-1, 12, MIN, MAX};
        for (int task : none) {
            refused("about(" + task + ", 0)", NOTHING_ABOUT, t -> t.about(task, 0));
            refused("about(" + task + ", 7)", NOTHING_ABOUT, t -> t.about(task, 7));
        }
        int[] wrong = {-1, 7, MIN, MAX};
        for (int what : wrong) {
            refused("about(0, " + what + ")", NOTHING_ABOUT, t -> t.about(0, what));
            refused("about(11, " + what + ")", NOTHING_ABOUT, t -> t.about(11, what));
        }
        Check.due("about(0, 0), the first", Check.busy().about(0, 0), 1);
        Check.due("about(0, 6), the last", Check.busy().about(0, 6), 5);
        Check.due("about(11, 3), of the last TASK", Check.busy().about(11, 3), -1);
    }

    private static void stacks() {
        int[] none = {-1, 12, MIN, MAX};
        for (int task : none) {
            refused("stack(" + task + ", 0)", 0, t -> t.stack(task, 0));
        }
        int[] noInts = {-1, 1, 23, 24, MIN, MAX};
        for (int i : noInts) {
            refused("stack(7, " + i + ")", 0, t -> t.stack(7, i));
        }
        refused("stack(11, 0) of a FREE one", 0, t -> t.stack(11, 0));
        Check.due("stack(7, 0)", Check.busy().stack(7, 0), 77);
    }

    private static void helds() {
        int[] none = {-1, 6, MIN, MAX};
        for (int channel : none) {
            refused("held(" + channel + ")", -1, t -> t.held(channel));
        }
        Check.due("held(0)", Check.busy().held(0), 0);
        Check.due("held(1)", Check.busy().held(1), 2);
        Check.due("held(5)", Check.busy().held(5), 0);
    }

    private static void channels() {
        int[] none = {-1, 6, MIN, MAX};
        for (int channel : none) {
            refused("channel(" + channel + ", 0)", 0, t -> t.channel(channel, 0));
        }
        int[] noInts = {-1, 2, 7, 8, MIN, MAX};
        for (int i : noInts) {
            refused("channel(1, " + i + ")", 0, t -> t.channel(1, i));
        }
        refused("channel(0, 0), empty", 0, t -> t.channel(0, 0));
        Check.due("channel(1, 0)", Check.busy().channel(1, 0), 81);
        Check.due("channel(1, 1), the last that there is", Check.busy().channel(1, 1), 82);
    }

    private static void memories() {
        int[] none = {-1, 64, MIN, MAX};
        for (int place : none) {
            refused("memory(" + place + ")", 0, t -> t.memory(place));
        }
        Check.due("memory(7)", Check.busy().memory(7), 77);
    }

    private static void records() {
        int[] none = {-1, 1, 299, 300, MIN, MAX};
        for (int i : none) {
            refused("record(" + i + ")", 0, t -> t.record(i));
        }
        Check.due("record(0), the one that there is", Check.busy().record(0), 77);
    }

    private static void tolds() {
        int[] wrong = {-1, 8, MIN, MAX};
        for (int what : wrong) {
            refused("told(" + what + ")", -2, t -> t.told(what));
        }
        int[] dues = {16, 7, 7, 1, 6, 1, 8, 1};
        for (int what = 0; what < dues.length; what++) {
            Check.due("told(" + what + ")", Check.busy().told(what), dues[what]);
        }
    }

    /** Of a new object, too. */
    private static void refusedBeforeAnything() {
        Check.due("a wrong run is no STEP", newRun(-1), 2);
        Check.due("a run of none is no STEP", newRun(0), 2);
        TurnTasks t = new TurnTasks();
        t.spawn(512, 1);
        t.spawn(-1, 1);
        Check.due("none is spawned", t.told(6), 0);
        Check.due("none is LIVE", t.told(4), 0);
        Check.due("TASK 0 is FREE", t.state(0), 0);
    }

    private static int newRun(int n) {
        TurnTasks t = Check.machine(36, 0);
        t.spawn(0, 9);
        t.run(n);
        Check.due("TIME after run(" + n + ")", t.told(0), 0);
        Check.due("state after run(" + n + ")", t.state(0), 1);
        return t.latest();
    }
}
