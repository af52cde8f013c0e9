/** A machine for tasks that give way to one another; ../shared/DOC.md says what each call does. */
public final class TurnTasks {
    public static final int UNKNOWN = -1, OUTSIDE = -2, FULL = -4;
    public static final int RAN = 0, LATER = 1, IDLE = 2, DEAD = 3;

    private static final int CODE_SIZE = 512, MEMORY_SIZE = 64, RECORD_SIZE = 300;
    private static final int TASK_COUNT = 12, STACK_SIZE = 24, RETURNS_SIZE = 12;
    private static final int CHANNEL_COUNT = 6, FIRST_SIZE = 4, MOST_SIZE = 8;
    private static final int FIRST_QUANTUM = 8, MOST_QUANTUM = 50, MOST_RUN = 5000;
    private static final int LONGEST_SLEEP = 1000000;
    private static final int NONE = -1;
    private static final int NOTHING_ABOUT = -1000000001;

    private final int[] code = new int[CODE_SIZE];
    private final int[] memory = new int[MEMORY_SIZE];
    private final int[] record = new int[RECORD_SIZE];
    private final Task[] tasks = new Task[TASK_COUNT];
    private final Channel[] channels = new Channel[CHANNEL_COUNT];
    private final int[] fallen = new int[TASK_COUNT];
    private int quantum = FIRST_QUANTUM;
    private int latest = IDLE;
    private int turn;
    private int left;
    private int time;
    private int printed;
    private int spawned;
    private int faults;

    public TurnTasks() {
        for (int i = 0; i < TASK_COUNT; i++) {
            tasks[i] = new Task();
        }
        for (int i = 0; i < CHANNEL_COUNT; i++) {
            channels[i] = new Channel();
        }
    }

    // ---- the calls

    public int poke(int place, int word) {
        if (!isCodePlace(place)) {
            return 0;
        }
        int before = code[place];
        code[place] = word;
        return before;
    }

    public int code(int place) {
        return isCodePlace(place) ? code[place] : 0;
    }

    public int word(int op, int arg) {
        return op >= 0 && op <= 255 ? arg << 8 | op : 0;
    }

    public int spawn(int place, int x) {
        if (!isCodePlace(place)) {
            return OUTSIDE;
        }
        int number = startTask(place, x);
        return number == NONE ? FULL : number;
    }

    public int quantum(int n) {
        if (n < 1 || n > MOST_QUANTUM) {
            return OUTSIDE;
        }
        int before = quantum;
        quantum = n;
        return before;
    }

    public int size(int channel, int n) {
        if (!isChannel(channel)) {
            return UNKNOWN;
        }
        Channel it = channels[channel];
        if (n < 1 || n > MOST_SIZE || n < it.count) {
            return OUTSIDE;
        }
        int before = it.size;
        it.size = n;
        wakeWaiting();
        return before;
    }

    public int put(int channel, int x) {
        if (!isChannel(channel)) {
            return UNKNOWN;
        }
        if (!hasRoom(channel)) {
            return FULL;
        }
        channels[channel].append(x);
        wakeWaiting();
        return channels[channel].count;
    }

    public int take(int channel) {
        if (!hasInts(channel)) {
            return 0;
        }
        int first = channels[channel].removeFirst();
        wakeWaiting();
        return first;
    }

    public int step() {
        return advance();
    }

    public int run(int n) {
        if (n < 0 || n > MOST_RUN) {
            return OUTSIDE;
        }
        for (int done = 0; done < n; done++) {
            int told = advance();
            if (told == IDLE || told == DEAD) {
                return done;
            }
        }
        return n;
    }

    public int latest() {
        return latest;
    }

    public int state(int task) {
        return isTask(task) ? tasks[task].state : UNKNOWN;
    }

    public int about(int task, int what) {
        if (!isTask(task)) {
            return NOTHING_ABOUT;
        }
        Task it = tasks[task];
        switch (what) {
            case 0: return it.place;
            case 1: return it.depth;
            case 2: return it.returnCount;
            case 3: return it.trap;
            case 4: return it.links;
            case 5: return it.state == State.SLEEPS ? it.hour : 0;
            case 6: return it.outcome;
            default: return NOTHING_ABOUT;
        }
    }

    public int stack(int task, int i) {
        return isTask(task) && i >= 0 && i < tasks[task].depth ? tasks[task].stack[i] : 0;
    }

    public int held(int channel) {
        return isChannel(channel) ? channels[channel].count : UNKNOWN;
    }

    public int channel(int channel, int i) {
        return isChannel(channel) && i >= 0 && i < channels[channel].count ? channels[channel].ints[i] : 0;
    }

    public int memory(int place) {
        return isMemoryPlace(place) ? memory[place] : 0;
    }

    public int record(int i) {
        return i >= 0 && i < printed && i < RECORD_SIZE ? record[i] : 0;
    }

    public int told(int what) {
        switch (what) {
            case 0: return time;
            case 1: return turn;
            case 2: return left;
            case 3: return printed;
            case 4: return countLive();
            case 5: return countIn(State.READY);
            case 6: return spawned;
            case 7: return faults;
            default: return OUTSIDE;
        }
    }

    // ---- what there is

    private static boolean isCodePlace(int place) {
        return place >= 0 && place < CODE_SIZE;
    }

    private static boolean isMemoryPlace(int place) {
        return place >= 0 && place < MEMORY_SIZE;
    }

    private static boolean isTask(int number) {
        return number >= 0 && number < TASK_COUNT;
    }

    private static boolean isChannel(int number) {
        return number >= 0 && number < CHANNEL_COUNT;
    }

    private boolean isLive(int number) {
        return number >= 0 && number < TASK_COUNT && tasks[number].isLive();
    }

    private boolean hasRoom(int channel) {
        return channel >= 0 && channel < CHANNEL_COUNT && channels[channel].count < channels[channel].size;
    }

    private boolean hasInts(int channel) {
        return channel >= 0 && channel < CHANNEL_COUNT && channels[channel].count > 0;
    }

    private int countLive() {
        int count = 0;
        for (int i = 0; i < TASK_COUNT; i++) {
            count += tasks[i].isLive() ? 1 : 0;
        }
        return count;
    }

    private int countIn(int state) {
        int count = 0;
        for (int i = 0; i < TASK_COUNT; i++) {
            count += tasks[i].state == state ? 1 : 0;
        }
        return count;
    }

    // ---- starting and waking

    /** The number of the new TASK, or NONE if all are LIVE. */
    private int startTask(int place, int x) {
        int number = leastNotLive();
        if (!isTask(number)) {
            return NONE;
        }
        for (int i = 0; i < TASK_COUNT; i++) {
            tasks[i].links &= ~(1 << number);
        }
        tasks[number].begin(place, x);
        spawned++;
        return number;
    }

    private int leastNotLive() {
        for (int i = 0; i < TASK_COUNT; i++) {
            if (!tasks[i].isLive()) {
                return i;
            }
        }
        return NONE;
    }

    private void wakeSleepers() {
        for (int i = 0; i < TASK_COUNT; i++) {
            if (tasks[i].state == State.SLEEPS && tasks[i].hour <= time) {
                tasks[i].state = State.READY;
            }
        }
    }

    private void wakeWaiting() {
        for (int i = 0; i < TASK_COUNT; i++) {
            if (isThere(tasks[i])) {
                tasks[i].state = State.READY;
            }
        }
    }

    /** Whether the TASK waits, and for something that is there. */
    private boolean isThere(Task task) {
        switch (task.state) {
            case State.SENDS: return hasRoom(task.awaited);
            case State.RECEIVES: return hasInts(task.awaited);
            case State.CHOOSES: return hasInts(task.awaited) || hasInts(task.alternative);
            case State.WAITS: return !isLive(task.awaited);
            default: return false;
        }
    }

    // ---- a STEP

    private int advance() {
        wakeSleepers();
        latest = passTurn() ? RAN : standstill();
        if (latest == RAN) {
            left--;
            doOp();
            wakeWaiting();
        }
        if (latest == RAN || latest == LATER) {
            time++;
        }
        return latest;
    }

    /** Whether there is a READY TASK; TURN is it then. */
    private boolean passTurn() {
        if (left > 0 && tasks[turn].state == State.READY) {
            return true;
        }
        for (int i = 1; i <= TASK_COUNT; i++) {
            int number = (turn + i) % TASK_COUNT;
            if (tasks[number].state == State.READY) {
                turn = number;
                left = quantum;
                return true;
            }
        }
        return false;
    }

    private int standstill() {
        if (countLive() == 0) {
            return IDLE;
        }
        return countIn(State.SLEEPS) > 0 ? LATER : DEAD;
    }

    private void doOp() {
        Task task = tasks[turn];
        if (!isCodePlace(task.place)) {
            bringFault(turn, Fault.NO_OP);
            return;
        }
        int op = code[task.place] & 255;
        int arg = code[task.place] >> 8;
        int fault = faultOf(task, op, arg);
        if (fault != Fault.NO_FAULT) {
            bringFault(turn, fault);
        } else if (!mustWait(task, op, arg)) {
            task.place++;
            perform(task, op, arg);
        }
    }

    /** Whether the OP has to wait; the TASK is in the STATE of it then. */
    private boolean mustWait(Task task, int op, int arg) {
        switch (op) {
            case Op.SEND: task.waitFor(State.SENDS, arg, arg); break;
            case Op.RECEIVE: task.waitFor(State.RECEIVES, arg, arg); break;
            case Op.CHOOSE: task.waitFor(State.CHOOSES, arg & 7, arg >> 3); break;
            case Op.WAIT: task.waitFor(State.WAITS, task.below(0), task.below(0)); break;
            default: return false;
        }
        if (isThere(task)) {
            task.state = State.READY;
            return false;
        }
        return true;
    }

    // ---- FAULTS

    /** The first FAULT that the OP has, in the document's order. */
    private int faultOf(Task task, int op, int arg) {
        if (!Op.isOne(op)) {
            return Fault.NO_OP;
        }
        if (lacksInts(task, op)) {
            return Fault.TOO_FEW;
        }
        int x = task.below(0);
        if ((op == Op.DIVIDE || op == Op.REMAINDER) && x == 0) {
            return Fault.BY_ZERO;
        }
        if (lacksPlace(op, arg, x)) {
            return Fault.NO_PLACE;
        }
        if (lacksChannel(op, arg)) {
            return Fault.NO_CHANNEL;
        }
        boolean aimsAtTask = op == Op.KILL || op == Op.WAIT || op == Op.LINK;
        if (aimsAtTask && lacksTask(x)) {
            return Fault.NO_TASK;
        }
        if (overflows(task, op, arg)) {
            return Fault.TOO_MANY;
        }
        return op == Op.LINK && isFaulted(x) ? Fault.LINKED : Fault.NO_FAULT;
    }

    private static boolean lacksInts(Task task, int op) {
        if (task.depth < Op.takenBy(op)) {
            return true;
        }
        if (op == Op.RETURN) {
            return task.returnCount == 0;
        }
        return op == Op.PICK && (task.below(0) < 0 || task.below(0) >= task.depth - 1);
    }

    private static boolean lacksPlace(int op, int arg, int x) {
        switch (op) {
            case Op.GO:
            case Op.GO_IF_ZERO:
            case Op.CALL:
            case Op.SPAWN: return !isCodePlace(arg);
            case Op.TRAP: return arg != NONE && !isCodePlace(arg);
            case Op.LOAD:
            case Op.STORE: return !isMemoryPlace(arg);
            case Op.LOAD_AT:
            case Op.STORE_AT: return !isMemoryPlace(x);
            default: return false;
        }
    }

    private static boolean lacksChannel(int op, int arg) {
        switch (op) {
            case Op.SEND:
            case Op.RECEIVE:
            case Op.TRY_SEND:
            case Op.TRY_RECEIVE:
            case Op.HELD: return !isChannel(arg);
            case Op.CHOOSE: return !isChannel(arg & 7) || !isChannel(arg >> 3);
            default: return false;
        }
    }

    private boolean lacksTask(int number) {
        return !isTask(number) || number == turn || tasks[number].state == State.FREE;
    }

    private boolean isFaulted(int number) {
        return isTask(number) && tasks[number].state == State.FAULTED;
    }

    private boolean overflows(Task task, int op, int arg) {
        if (op == Op.CALL) {
            return task.returnCount >= RETURNS_SIZE;
        }
        return task.depth - Op.takenBy(op) + comingBy(op, arg) > STACK_SIZE;
    }

    /** How many ints come on the STACK: of an OP that waits none, of a vain try its 0 alone. */
    private int comingBy(int op, int arg) {
        switch (op) {
            case Op.RECEIVE: return hasInts(arg) ? 1 : 0;
            case Op.TRY_RECEIVE: return hasInts(arg) ? 2 : 1;
            case Op.CHOOSE: return hasInts(arg & 7) || hasInts(arg >> 3) ? 2 : 0;
            default: return Op.givenBy(op);
        }
    }

    /** A FAULT of one TASK, if it is LIVE, and those that come by LINKS, in the order in which TASKS fall. */
    private void bringFault(int number, int fault) {
        int count = 0;
        if (isLive(number) && strike(tasks[number], fault)) {
            fallen[count++] = number;
        }
        for (int i = 0; i < count && i < TASK_COUNT; i++) {
            int linkToFallen = 1 << fallen[i];
            for (int other = 0; other < TASK_COUNT; other++) {
                boolean struck = isLive(other) && (tasks[other].links & linkToFallen) != 0;
                if (struck && strike(tasks[other], Fault.LINKED) && count < TASK_COUNT) {
                    fallen[count++] = other;
                }
            }
        }
    }

    /** Whether the TASK is FAULTED by it: else its TRAP took the FAULT. */
    private boolean strike(Task task, int fault) {
        faults++;
        if (task.trap != NONE && fault != Fault.KILLED) {
            task.restartAt(task.trap, fault);
            return false;
        }
        task.end(State.FAULTED, -fault);
        return true;
    }

    // ---- OPS, whose FAULTS and waits have been asked before

    private void perform(Task task, int op, int arg) {
        if (op <= Op.IS_ZERO) {
            calculate(task, op, arg);
        } else if (op <= Op.RETURN) {
            go(task, op, arg);
        } else if (op <= Op.STORE_AT) {
            useMemory(task, op, arg);
        } else if (Op.isOfChannel(op)) {
            useChannel(task, op, arg);
        } else if (op == Op.SPAWN) {
            task.push(startTask(arg, task.pop()));
        } else if (op == Op.KILL) {
            bringFault(task.pop(), Fault.KILLED);
        } else {
            useItself(task, op, arg);
        }
    }

    private static void calculate(Task task, int op, int arg) {
        switch (op) {
            case Op.NOTHING: break;
            case Op.PUSH: task.push(arg); break;
            case Op.DROP: task.pop(); break;
            case Op.COPY: task.push(task.below(0)); break;
            case Op.COPY_SECOND: task.push(task.below(1)); break;
            case Op.SWAP: swap(task); break;
            case Op.NEGATE: task.push(-task.pop()); break;
            case Op.IS_ZERO: task.push(task.pop() == 0 ? 1 : 0); break;
            default:
                int x = task.pop();
                int y = task.pop();
                task.push(combine(op, y, x));
                break;
        }
    }

    private static void swap(Task task) {
        int x = task.pop();
        int y = task.pop();
        task.push(x);
        task.push(y);
    }

    private static int combine(int op, int y, int x) {
        switch (op) {
            case Op.ADD: return y + x;
            case Op.SUBTRACT: return y - x;
            case Op.MULTIPLY: return y * x;
            case Op.DIVIDE: return x == 0 ? 0 : y / x;
            case Op.REMAINDER: return x == 0 ? 0 : y % x;
            case Op.AND: return y & x;
            case Op.OR: return y | x;
            case Op.EXCLUSIVE_OR: return y ^ x;
            case Op.SHIFT_LEFT: return y << (x & 31);
            case Op.SHIFT_RIGHT: return y >> (x & 31);
            case Op.IS_LESS: return y < x ? 1 : 0;
            case Op.IS_SAME: return y == x ? 1 : 0;
            default: return 0;
        }
    }

    private static void go(Task task, int op, int arg) {
        switch (op) {
            case Op.GO: task.place = arg; break;
            case Op.GO_IF_ZERO: task.place = task.pop() == 0 ? arg : task.place; break;
            case Op.CALL: task.pushReturn(task.place); task.place = arg; break;
            case Op.RETURN: task.place = task.popReturn(); break;
            default: break;
        }
    }

    private void useMemory(Task task, int op, int arg) {
        boolean byArg = op == Op.LOAD || op == Op.STORE;
        int place = byArg ? arg : task.pop();
        if (!isMemoryPlace(place)) {
            return;
        }
        if (op == Op.LOAD || op == Op.LOAD_AT) {
            task.push(memory[place]);
        } else {
            memory[place] = task.pop();
        }
    }

    private void useChannel(Task task, int op, int arg) {
        if (op == Op.CHOOSE) {
            choose(task, arg & 7, arg >> 3);
            return;
        }
        if (!isChannel(arg)) {
            return;
        }
        switch (op) {
            case Op.SEND: channels[arg].append(task.pop()); break;
            case Op.RECEIVE: task.push(channels[arg].removeFirst()); break;
            case Op.TRY_SEND: trySend(task, arg); break;
            case Op.TRY_RECEIVE: tryReceive(task, arg); break;
            case Op.HELD: task.push(channels[arg].count); break;
            default: break;
        }
    }

    private void trySend(Task task, int channel) {
        int x = task.pop();
        boolean room = hasRoom(channel);
        if (room) {
            channels[channel].append(x);
        }
        task.push(room ? 1 : 0);
    }

    private void tryReceive(Task task, int channel) {
        boolean there = hasInts(channel);
        if (there) {
            task.push(channels[channel].removeFirst());
        }
        task.push(there ? 1 : 0);
    }

    private void choose(Task task, int channel, int alternative) {
        int which = hasInts(channel) ? 0 : 1;
        int chosen = which == 0 ? channel : alternative;
        if (isChannel(chosen)) {
            task.push(channels[chosen].removeFirst());
            task.push(which);
        }
    }

    private void useItself(Task task, int op, int arg) {
        switch (op) {
            case Op.GIVE_WAY: left = 0; break;
            case Op.END: task.end(State.OVER, task.pop()); break;
            case Op.SLEEP: sleep(task, task.pop()); break;
            case Op.NUMBER: task.push(turn); break;
            case Op.TIME: task.push(time); break;
            case Op.PRINT: print(task.pop()); break;
            case Op.WAIT: task.push(outcomeOf(task.pop())); break;
            case Op.LINK: task.links |= 1 << task.pop(); break;
            case Op.TRAP: task.trap = arg; break;
            case Op.PICK: task.push(task.below(task.pop())); break;
            default: break;
        }
    }

    private int outcomeOf(int number) {
        return isTask(number) ? tasks[number].outcome : 0;
    }

    private void sleep(Task task, int x) {
        if (x >= 1) {
            // this STEP itself is counted only when the OP is done
            task.hour = time + 1 + Math.min(x, LONGEST_SLEEP);
            task.state = State.SLEEPS;
        }
    }

    private void print(int x) {
        if (printed < RECORD_SIZE) {
            record[printed] = x;
        }
        printed++;
    }

    // ---- the parts

    private static final class State {
        static final int FREE = 0, READY = 1, SENDS = 2, RECEIVES = 3, CHOOSES = 4, SLEEPS = 5, WAITS = 6;
        static final int OVER = 7, FAULTED = 8;
    }

    private static final class Fault {
        static final int NO_FAULT = 0, NO_OP = 1, TOO_FEW = 2, TOO_MANY = 3, BY_ZERO = 4, NO_PLACE = 5;
        static final int NO_CHANNEL = 6, NO_TASK = 7, LINKED = 8, KILLED = 9;
    }

    private static final class Op {
        static final int NOTHING = 0, PUSH = 1, DROP = 2, COPY = 3, SWAP = 4, COPY_SECOND = 5;
        static final int ADD = 6, SUBTRACT = 7, MULTIPLY = 8, DIVIDE = 9, REMAINDER = 10, NEGATE = 11;
        static final int AND = 12, OR = 13, EXCLUSIVE_OR = 14, SHIFT_LEFT = 15, SHIFT_RIGHT = 16;
        static final int IS_LESS = 17, IS_SAME = 18, IS_ZERO = 19;
        static final int GO = 20, GO_IF_ZERO = 21, CALL = 22, RETURN = 23;
        static final int LOAD = 24, STORE = 25, LOAD_AT = 26, STORE_AT = 27;
        static final int SPAWN = 28, GIVE_WAY = 29, END = 30;
        static final int SEND = 31, RECEIVE = 32, TRY_SEND = 33, TRY_RECEIVE = 34, CHOOSE = 35;
        static final int SLEEP = 36, NUMBER = 37, TIME = 38, PRINT = 39, KILL = 40, WAIT = 41;
        static final int TRAP = 42, LINK = 43, HELD = 44, PICK = 45;

        /** How many ints each OP takes; those that only look at an int take it and give it back. */
        private static final int[] TAKES = {
            0, 0, 1, 1, 2, 2, 2, 2, 2, 2, 2, 1, 2, 2, 2, 2, 2, 2, 2, 1,
            0, 1, 0, 0, 0, 1, 1, 2, 1, 0, 1, 1, 0, 1, 0, 0, 1, 0, 0, 1,
            1, 1, 0, 1, 0, 1,
        };
        /** How many ints each OP gives at most. */
        private static final int[] GIVES = {
            0, 1, 0, 2, 2, 3, 1, 1, 1, 1, 1, 1, 1, 1, 1, 1, 1, 1, 1, 1,
            0, 0, 0, 0, 1, 0, 1, 0, 1, 0, 0, 0, 1, 1, 2, 2, 0, 1, 1, 0,
            0, 1, 0, 0, 1, 1,
        };

        static boolean isOne(int op) {
            return op >= NOTHING && op <= PICK;
        }

        static boolean isOfChannel(int op) {
            return op >= SEND && op <= CHOOSE || op == HELD;
        }

        static int takenBy(int op) {
            return op >= 0 && op < TAKES.length ? TAKES[op] : 0;
        }

        static int givenBy(int op) {
            return op >= 0 && op < GIVES.length ? GIVES[op] : 0;
        }
    }

    private static final class Channel {
        final int[] ints = new int[MOST_SIZE];
        int count;
        int size = FIRST_SIZE;

        void append(int x) {
            if (count < MOST_SIZE) {
                ints[count++] = x;
            }
        }

        int removeFirst() {
            if (count == 0) {
                return 0;
            }
            int first = ints[0];
            for (int i = 1; i < count && i < MOST_SIZE; i++) {
                ints[i - 1] = ints[i];
            }
            count--;
            return first;
        }
    }

    private static final class Task {
        final int[] stack = new int[STACK_SIZE];
        final int[] returns = new int[RETURNS_SIZE];
        int state = State.FREE;
        int place;
        int depth;
        int returnCount;
        int trap = NONE;
        int links;
        int hour;
        /** The CODE with which it is OVER, 0 less its FAULT, or 0. */
        int outcome;
        /** Which CHANNEL or TASK it waits for: kept here, for the word of CODE may be changed meanwhile. */
        int awaited;
        int alternative;

        boolean isLive() {
            return state >= State.READY && state <= State.WAITS;
        }

        void begin(int at, int x) {
            restartAt(at, x);
            links = 0;
            outcome = 0;
        }

        /** As a new TASK and one that a TRAP catches go on; LINKS stay. */
        void restartAt(int at, int onlyInt) {
            state = State.READY;
            place = at;
            stack[0] = onlyInt;
            depth = 1;
            returnCount = 0;
            trap = NONE;
        }

        void end(int how, int with) {
            state = how;
            outcome = with;
        }

        void waitFor(int how, int what, int orElse) {
            state = how;
            awaited = what;
            alternative = orElse;
        }

        void push(int x) {
            if (depth < STACK_SIZE) {
                stack[depth++] = x;
            }
        }

        int pop() {
            return depth > 0 ? stack[--depth] : 0;
        }

        /** The int that is so many below the uppermost one; 0 if there is none. */
        int below(int i) {
            return i >= 0 && i < depth ? stack[depth - 1 - i] : 0;
        }

        void pushReturn(int to) {
            if (returnCount < RETURNS_SIZE) {
                returns[returnCount++] = to;
            }
        }

        int popReturn() {
            return returnCount > 0 ? returns[--returnCount] : place;
        }
    }
}
