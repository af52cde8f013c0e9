/** Many made-up programs and calls: nothing is ever thrown, and what is told never contradicts itself. */
public final class RandomRunsTest {
    private static final int[] ODD = {Integer.MIN_VALUE, -1000000, -9, -2, -1, 512, 513, 5001, Integer.MAX_VALUE};
    private long seed;

    private RandomRunsTest(long seed) {
        this.seed = seed;
    }

    public static void main(String[] args) {
        for (int i = 0; i < 3000; i++) {
            TurnTasks a = new TurnTasks();
            TurnTasks b = new TurnTasks();
            long first = new RandomRunsTest(i).play(a, i);
            long again = new RandomRunsTest(i).play(b, i);
            Check.due("run " + i + ", done anew", again, first);
        }
        Check.finish();
    }

    private int below(int n) {
        seed = seed * 6364136223846793005L + 1442695040888963407L;
        return (int) Math.floorMod(seed >>> 33, (long) n);
    }

    private int number(int n) {
        return below(12) == 0 ? ODD[below(ODD.length)] : below(n);
    }

    private int arg(int op) {
        if (op >= 31 && op <= 34 || op == 44) {
            return number(6);
        }
        if (op == 35) {
            return below(6) + 8 * number(6);
        }
        return op == 1 ? number(14) : number(40);
    }

    private long play(TurnTasks t, int run) {
        for (int place = 0; place < 40; place++) {
            int op = below(47);
            t.poke(place, t.word(op, arg(op)));
        }
        long sum = 0;
        // looked at once, at the end of a run of any length: an object is used for at most 512 calls
        int calls = below(170);
        for (int call = 0; call < calls; call++) {
            sum = sum * 31 + call(t);
        }
        consistent(t, run);
        return sum;
    }

    private int call(TurnTasks t) {
        switch (below(16)) {
            case 0: return t.poke(number(40), t.word(below(47), number(40)));
            case 1: return t.quantum(number(51));
            case 2: return t.size(number(6), number(9));
            case 3: return t.put(number(6), number(14));
            case 4: return t.take(number(6));
            case 5:
            case 6:
            case 7: return t.spawn(number(40), number(14));
            case 8: return t.run(number(60));
            case 9: return t.about(number(12), number(7));
            case 10: return t.stack(number(12), number(24)) + t.channel(number(6), number(8));
            case 11: return t.memory(number(64)) + t.record(number(300)) + t.told(number(8));
            default: return t.step();
        }
    }

    private static void consistent(TurnTasks t, int run) {
        int live = 0;
        int ready = 0;
        boolean fine = t.told(1) >= 0 && t.told(1) < 12 && t.told(2) >= 0 && t.told(2) <= 50;
        for (int i = 0; i < 12; i++) {
            int state = t.state(i);
            live += state >= 1 && state <= 6 ? 1 : 0;
            ready += state == 1 ? 1 : 0;
            fine &= state >= 0 && state <= 8;
            fine &= t.about(i, 1) >= 0 && t.about(i, 1) <= 24 && t.about(i, 2) >= 0 && t.about(i, 2) <= 12;
            fine &= (t.about(i, 4) & 1 << i) == 0 && t.about(i, 4) >>> 12 == 0;
            fine &= (state == 5) == (t.about(i, 5) > 0);
            fine &= state == 7 || t.about(i, 6) <= 0 && (t.about(i, 6) < 0) == (state == 8);
            fine &= t.about(i, 3) >= -1 && t.about(i, 3) < 512 && t.about(i, 0) >= 0 && t.about(i, 0) <= 512;
        }
        for (int i = 0; i < 6; i++) {
            fine &= t.held(i) >= 0 && t.held(i) <= 8;
        }
        Check.due("run " + run + ": is consistent", fine ? 1 : 0, 1);
        Check.due("run " + run + ": LIVE", t.told(4), live);
        Check.due("run " + run + ": READY", t.told(5), ready);
    }
}
