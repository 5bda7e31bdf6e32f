/**
 * A small real-time kernel: threads with fixed and inherited priorities, mutexes of three protocols, condition
 * variables, semaphores, message queues, joins, sleeps, timeouts and time slices.
 *
 * <p>The words in capitals are those of the document. All objects are made in the constructor; no call makes one.
 */
public final class PriorityKernel {
    public static final int REFUSED = -1;
    public static final int DONE = 0;
    public static final int BLOCKED = 1;
    public static final int TIMED_OUT = 2;
    public static final long NONE = 1000000000000L;

    private static final int THREADS = 8;
    private static final int MUTEXES = 4;
    private static final int CONDITIONS = 2;
    private static final int SEMAPHORES = 2;
    private static final int QUEUES = 2;

    private static final int FIRST_INHERITING = 1;
    private static final int LAST_INHERITING = 2;
    private static final int CEILING_MUTEX = 3;

    private static final int LEAST_PRIORITY = 1;
    private static final int GREATEST_PRIORITY = 31;
    private static final int LONGEST_SLICE = 20;
    private static final int LONGEST_WAIT = 1000;
    private static final int MOST_TICKS = 100;
    private static final int GREATEST_VALUE = 99;
    private static final int GREATEST_RANK = 9;
    private static final int QUEUE_ROOM = 4;

    private static final int NOBODY = -1;
    private static final int SUCCESS = 0;

    // The states and the things to be BLOCKED on have the numbers that tell answers.
    private static final int FREE = 0;
    private static final int READY = 1;
    private static final int WAITING = 2;
    private static final int ZOMBIE = 3;

    private static final int ON_NOTHING = 0;
    private static final int ON_MUTEX = 10;
    private static final int ON_CONDITION = 20;
    private static final int ON_SEMAPHORE = 30;
    private static final int ON_SENDING = 40;
    private static final int ON_RECEIVING = 50;
    private static final int ON_SLEEP = 60;
    private static final int ON_JOIN = 70;

    private final int slice;
    private final int ceiling;
    private final Task[] tasks = new Task[THREADS];
    private final int[] owners = new int[MUTEXES];
    private final int[] values = new int[SEMAPHORES];
    private final MessageQueue[] queues = new MessageQueue[QUEUES];
    private int time = 0;
    /** STAMPS and the starts of waits come from this one row of numbers, so that later ones are always greater. */
    private long lastMoment = 0;

    public PriorityKernel(int slice, int ceiling) {
        this.slice = Math.max(1, Math.min(LONGEST_SLICE, slice));
        this.ceiling = Math.max(LEAST_PRIORITY, Math.min(GREATEST_PRIORITY, ceiling));
        for (int t = 0; t < THREADS; t++) {
            tasks[t] = new Task(t);
        }
        for (int m = 0; m < MUTEXES; m++) {
            owners[m] = NOBODY;
        }
        for (int q = 0; q < QUEUES; q++) {
            queues[q] = new MessageQueue();
        }
    }

    public int spawn(int base, boolean sliced) {
        if (!isPriority(base)) {
            return REFUSED;
        }
        Task fresh = leastFree();
        if (fresh == null) {
            return REFUSED;
        }
        fresh.base = base;
        fresh.sliced = sliced;
        makeReady(fresh, SUCCESS);
        return fresh.number;
    }

    public int priority(int thread, int base) {
        if (!isBelow(thread, THREADS) || !isPriority(base)) {
            return REFUSED;
        }
        Task t = tasks[thread];
        if (t.state == FREE || t.state == ZOMBIE) {
            return REFUSED;
        }
        if (owners[CEILING_MUTEX] == thread && base > ceiling) {
            return REFUSED;
        }
        t.base = base;
        if (t.state == READY) {
            // Its ticks USED stay: only the stamp is new.
            t.since = ++lastMoment;
        }
        return DONE;
    }

    public int pass() {
        Task r = runner();
        if (r == null) {
            return REFUSED;
        }
        startTurn(r);
        return DONE;
    }

    public int lock(int m) {
        Task r = runner();
        if (!isBelow(m, MUTEXES) || r == null || owners[m] == r.number) {
            return REFUSED;
        }
        if (m == CEILING_MUTEX && r.base > ceiling) {
            return REFUSED;
        }
        r.resultWhenOwning = SUCCESS;
        take(r, m);
        return r.state == READY ? DONE : BLOCKED;
    }

    public int unlock(int m) {
        Task r = runner();
        if (!isBelow(m, MUTEXES) || r == null || owners[m] != r.number) {
            return REFUSED;
        }
        give(m);
        return DONE;
    }

    public int await(int c, int m, int n) {
        if (!isBelow(c, CONDITIONS) || !isBelow(m, MUTEXES) || !isTimeout(n)) {
            return REFUSED;
        }
        Task r = runner();
        if (r == null || owners[m] != r.number) {
            return REFUSED;
        }
        r.mutexInMind = m;
        block(r, ON_CONDITION + c, deadlineAfter(n));
        give(m);
        return BLOCKED;
    }

    public int signal(int c, boolean all) {
        if (!isBelow(c, CONDITIONS)) {
            return REFUSED;
        }
        int most = all ? THREADS : 1;
        int woken = 0;
        // The first waiter is looked up anew each time: one that now waits for a mutex may have raised another.
        for (int i = 0; i < most; i++) {
            Task first = firstWaiter(ON_CONDITION + c);
            if (first == null) {
                break;
            }
            endAwait(first, SUCCESS);
            woken++;
        }
        return woken;
    }

    public int down(int s, int n) {
        Task r = runner();
        if (!isBelow(s, SEMAPHORES) || !isTimeout(n) || r == null) {
            return REFUSED;
        }
        if (values[s] == 0) {
            block(r, ON_SEMAPHORE + s, deadlineAfter(n));
            return BLOCKED;
        }
        values[s]--;
        r.result = SUCCESS;
        return DONE;
    }

    public int post(int s) {
        if (!isBelow(s, SEMAPHORES)) {
            return REFUSED;
        }
        Task first = firstWaiter(ON_SEMAPHORE + s);
        if (first != null) {
            makeReady(first, SUCCESS);
            return DONE;
        }
        if (values[s] >= GREATEST_VALUE) {
            return REFUSED;
        }
        values[s]++;
        return DONE;
    }

    public int send(int q, int rank, int value) {
        Task r = runner();
        if (!isBelow(q, QUEUES) || !isBelow(rank, GREATEST_RANK + 1) || r == null) {
            return REFUSED;
        }
        if (queues[q].isFull()) {
            r.rank = rank;
            r.value = value;
            block(r, ON_SENDING + q, NONE);
            return BLOCKED;
        }
        r.result = SUCCESS;
        arrive(q, rank, value);
        return DONE;
    }

    public int receive(int q) {
        Task r = runner();
        if (!isBelow(q, QUEUES) || r == null) {
            return REFUSED;
        }
        if (queues[q].isEmpty()) {
            block(r, ON_RECEIVING + q, NONE);
            return BLOCKED;
        }
        r.result = queues[q].removeFirst();
        Task sender = firstWaiter(ON_SENDING + q);
        if (sender != null) {
            arrive(q, sender.rank, sender.value);
            makeReady(sender, SUCCESS);
        }
        return DONE;
    }

    public int sleep(int n) {
        Task r = runner();
        if (n < 1 || n > LONGEST_WAIT || r == null) {
            return REFUSED;
        }
        block(r, ON_SLEEP, deadlineAfter(n));
        return BLOCKED;
    }

    public int join(int t) {
        Task r = runner();
        if (!isBelow(t, THREADS) || r == null || r.number == t) {
            return REFUSED;
        }
        Task other = tasks[t];
        if (other.state == ZOMBIE) {
            r.result = other.result;
            other.state = FREE;
            return DONE;
        }
        if (other.state == FREE || firstWaiter(ON_JOIN + t) != null) {
            return REFUSED;
        }
        block(r, ON_JOIN + t, NONE);
        return BLOCKED;
    }

    public int exit(int value) {
        Task r = runner();
        if (r == null || ownsAny(r)) {
            return REFUSED;
        }
        Task joiner = firstWaiter(ON_JOIN + r.number);
        if (joiner != null) {
            makeReady(joiner, value);
            r.state = FREE;
        } else {
            r.result = value;
            r.state = ZOMBIE;
        }
        return DONE;
    }

    public int tick(int n) {
        if (n < 1 || n > MOST_TICKS) {
            return REFUSED;
        }
        for (int i = 0; i < n; i++) {
            tickOnce();
        }
        return running();
    }

    public int running() {
        Task r = runner();
        return r == null ? NOBODY : r.number;
    }

    public long tell(int t, int what) {
        if (!isBelow(t, THREADS)) {
            return NONE;
        }
        Task told = tasks[t];
        if (what == 0) {
            return told.state;
        }
        if (told.state == FREE) {
            return NONE;
        }
        switch (what) {
            case 1:
                return told.base;
            case 2:
                workOutEffective();
                return told.effective;
            case 3:
                return told.result;
            case 4:
                return told.waitsOn;
            case 5:
                return told.deadline;
            default:
                return NONE;
        }
    }

    public int owner(int m) {
        return isBelow(m, MUTEXES) ? owners[m] : REFUSED;
    }

    public int count(int what) {
        switch (what) {
            case 0:
            case 1:
                return values[what];
            case 2:
            case 3:
                return queues[what - 2].size;
            case 4:
                return time;
            case 5:
                return readyThreads();
            default:
                return REFUSED;
        }
    }

    private static boolean isBelow(int number, int bound) {
        return number >= 0 && number < bound;
    }

    private static boolean isPriority(int base) {
        return base >= LEAST_PRIORITY && base <= GREATEST_PRIORITY;
    }

    private static boolean isTimeout(int n) {
        return n >= 0 && n <= LONGEST_WAIT;
    }

    private long deadlineAfter(int n) {
        return n == 0 ? NONE : (long) time + n;
    }

    private Task leastFree() {
        for (Task t : tasks) {
            if (t.state == FREE) {
                return t;
            }
        }
        return null;
    }

    private int readyThreads() {
        int ready = 0;
        for (Task t : tasks) {
            if (t.state == READY) {
                ready++;
            }
        }
        return ready;
    }

    private boolean ownsAny(Task t) {
        for (int owner : owners) {
            if (owner == t.number) {
                return true;
            }
        }
        return false;
    }

    /** THE RUNNING thread, null if the kernel is IDLE. */
    private Task runner() {
        return foremost(READY, ON_NOTHING);
    }

    /** THE FIRST WAITER for a thing, null if no thread is BLOCKED on it. */
    private Task firstWaiter(int thing) {
        return foremost(WAITING, thing);
    }

    private Task foremost(int state, int thing) {
        workOutEffective();
        Task best = null;
        for (Task t : tasks) {
            if (t.state == state && t.waitsOn == thing && (best == null || t.isAheadOf(best))) {
                best = t;
            }
        }
        return best;
    }

    /** Starts from what each thread has without others, so that threads waiting in a ring do not hold each other up. */
    private void workOutEffective() {
        for (Task t : tasks) {
            t.effective = owners[CEILING_MUTEX] == t.number ? Math.max(t.base, ceiling) : t.base;
        }
        // A round carries priorities at least one mutex further, and no chain has more threads than there are.
        boolean raised = true;
        for (int round = 0; round < THREADS && raised; round++) {
            raised = inheritOnce();
        }
    }

    private boolean inheritOnce() {
        boolean raised = false;
        for (Task t : tasks) {
            int heir = heirOf(t);
            if (heir != NOBODY && tasks[heir].effective < t.effective) {
                tasks[heir].effective = t.effective;
                raised = true;
            }
        }
        return raised;
    }

    private int heirOf(Task t) {
        for (int m = FIRST_INHERITING; m <= LAST_INHERITING; m++) {
            if (t.waitsOn == ON_MUTEX + m) {
                return owners[m];
            }
        }
        return NOBODY;
    }

    private void startTurn(Task t) {
        t.since = ++lastMoment;
        t.used = 0;
    }

    private void makeReady(Task t, int result) {
        t.state = READY;
        t.waitsOn = ON_NOTHING;
        t.deadline = NONE;
        t.result = result;
        t.since = ++lastMoment;
        t.used = 0;
    }

    private void block(Task t, int thing, long deadline) {
        t.state = WAITING;
        t.waitsOn = thing;
        t.deadline = deadline;
        t.since = ++lastMoment;
    }

    private void take(Task t, int m) {
        if (owners[m] == NOBODY) {
            makeOwner(t, m);
        } else {
            block(t, ON_MUTEX + m, NONE);
        }
    }

    private void give(int m) {
        owners[m] = NOBODY;
        Task first = firstWaiter(ON_MUTEX + m);
        if (first != null) {
            makeOwner(first, m);
        }
    }

    private void makeOwner(Task t, int m) {
        owners[m] = t.number;
        if (t.state == READY) {
            // It stays READY: a lock that need not wait leaves the turn as it is.
            t.result = t.resultWhenOwning;
        } else {
            makeReady(t, t.resultWhenOwning);
        }
    }

    private void endAwait(Task t, int result) {
        // The result is due at once, and must still be there when the mutex comes later.
        t.result = result;
        t.resultWhenOwning = result;
        take(t, t.mutexInMind);
    }

    private void arrive(int q, int rank, int value) {
        Task receiver = firstWaiter(ON_RECEIVING + q);
        if (receiver != null) {
            makeReady(receiver, value);
        } else {
            queues[q].insert(rank, value);
        }
    }

    private void tickOnce() {
        Task r = runner();
        time++;
        if (r != null) {
            useTick(r);
        }
        for (Task t : tasks) {
            if (t.deadline == time) {
                endWait(t);
            }
        }
    }

    private void useTick(Task r) {
        r.used++;
        if (r.sliced && r.used == slice) {
            startTurn(r);
        }
    }

    private void endWait(Task t) {
        if (t.waitsOn == ON_SLEEP) {
            makeReady(t, SUCCESS);
        } else if (isBelow(t.waitsOn - ON_CONDITION, CONDITIONS)) {
            endAwait(t, TIMED_OUT);
        } else {
            // Nothing else has a deadline but a semaphore.
            makeReady(t, TIMED_OUT);
        }
    }

    /** One of the THREADS, with what it waits for and the message that it waits to send. */
    private static final class Task {
        final int number;
        int state = FREE;
        int base = LEAST_PRIORITY;
        int effective = LEAST_PRIORITY;
        boolean sliced = false;
        int used = 0;
        int result = SUCCESS;
        /** While it is READY, its STAMP; while it is BLOCKED, the moment since when. */
        long since = 0;
        int waitsOn = ON_NOTHING;
        long deadline = NONE;
        int mutexInMind = 0;
        int resultWhenOwning = SUCCESS;
        int rank = 0;
        int value = 0;

        Task(int number) {
            this.number = number;
        }

        boolean isAheadOf(Task other) {
            return effective > other.effective || (effective == other.effective && since < other.since);
        }
    }

    /** Messages in the order in which they leave. */
    private static final class MessageQueue {
        final int[] ranks = new int[QUEUE_ROOM];
        final int[] contents = new int[QUEUE_ROOM];
        int size = 0;

        boolean isEmpty() {
            return size == 0;
        }

        boolean isFull() {
            return size == QUEUE_ROOM;
        }

        void insert(int rank, int content) {
            if (isFull()) {
                return;
            }
            int place = size;
            while (place > 0 && ranks[place - 1] < rank) {
                ranks[place] = ranks[place - 1];
                contents[place] = contents[place - 1];
                place--;
            }
            ranks[place] = rank;
            contents[place] = content;
            size++;
        }

        int removeFirst() {
            if (isEmpty()) {
                return 0;
            }
            int first = contents[0];
            size--;
            for (int i = 0; i < size; i++) {
                ranks[i] = ranks[i + 1];
                contents[i] = contents[i + 1];
            }
            return first;
        }
    }
}
