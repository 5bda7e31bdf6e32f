import java.util.List;
import java.util.function.Supplier;
import java.util.function.ToLongFunction;

/**
 * "A refused call changes nothing", for each sentence that refuses one: of two kernels made alike one gets the refused call,
 * and both must answer alike ever after.
 */
public final class RefusedTest extends Check {
    private RefusedTest() {
    }

    public static void main(String[] args) {
        scenesAreAsTold();
        spawn();
        priority();
        lock();
        unlock();
        await();
        signal();
        down();
        post();
        send();
        receive();
        sleep();
        join();
        exit();
        tick();
        looks();
        idle();
        idleAndOutOfRange();
        end();
    }

    private static void unchanged(String what, Supplier<PriorityKernel> scene, ToLongFunction<PriorityKernel> call, long answer) {
        for (List<Call> after : Afterplay.all()) {
            PriorityKernel called = scene.get();
            PriorityKernel spared = scene.get();
            due(what, call.applyAsLong(called), answer);
            for (Call later : after) {
                due(what + ", later " + later, later.on(called), later.on(spared));
            }
        }
    }

    private static void refused(String what, Supplier<PriorityKernel> scene, ToLongFunction<PriorityKernel> call) {
        unchanged(what, scene, call, REFUSED);
    }

    /** In the busy kernel with a FREE thread, and in that with a thread BLOCKED on a mutex in its place. */
    private static void refusedBusy(String what, ToLongFunction<PriorityKernel> call) {
        refused(what, Scenes::busy, call);
        refused(what + ", a mutex being wanted", Scenes::wanted, call);
    }

    private static void scenesAreAsTold() {
        about("the scenes");
        PriorityKernel k = Scenes.busy();
        int[] states = {IS_ZOMBIE, IS_BLOCKED, IS_READY, IS_BLOCKED, IS_BLOCKED, IS_BLOCKED, IS_READY, IS_FREE};
        int[] things = {0, 20, 0, 30, 41, 50, 0};
        for (int t = 0; t < 8; t++) {
            told(k, t, STATE, states[t]);
            told(k, t, WAITS_ON, t == 7 ? NONE : things[t]);
        }
        runs(k, 2);
        told(k, 2, RESULT, 42);
        due("owner", k.owner(0), 3);
        due("owner", k.owner(1), 2);
        due("semaphore 1", k.count(1), 3);
        due("queue 1", k.count(3), 4);
        runs(Scenes.idle(), -1);
        told(Scenes.joined(6), 7, WAITS_ON, 76);
        told(Scenes.wanted(), 7, WAITS_ON, 11);
        runs(Scenes.wanted(), 2);
        due("owner", Scenes.ceiled().owner(3), 2);
        runs(Scenes.ceiled(), 2);
        told(Scenes.ceiled(), 6, EFFECTIVE, 20);
        told(Scenes.ceiled(), 2, RESULT, TIMED_OUT);
        told(Scenes.aboveCeiling(), 2, BASE, 21);
        runs(Scenes.aboveCeiling(), 2);
        due("semaphore 1", Scenes.full().count(1), 99);
    }

    private static void spawn() {
        about("promise 2, BASE 1 .. 31");
        for (int wrong : outside(1, 31)) {
            refused("spawn " + wrong, Scenes::fresh, k -> k.spawn(wrong, true));
            refusedBusy("spawn " + wrong, k -> k.spawn(wrong, false));
        }
        about("promise 2, None is FREE: REFUSED");
        refused("a ninth thread", () -> Scenes.joined(6), k -> k.spawn(5, true));
        refused("a ninth thread, a mutex being wanted", Scenes::wanted, k -> k.spawn(5, true));
        refused("a ninth thread above all", () -> Scenes.joined(2), k -> k.spawn(31, false));
    }

    private static void priority() {
        about("promise 3, The thread 0 .. 7");
        for (int wrong : outside(0, 7)) {
            refusedBusy("priority of " + wrong, k -> k.priority(wrong, 9));
        }
        about("promise 3, BASE 1 .. 31");
        for (int wrong : outside(1, 31)) {
            refusedBusy("priority " + wrong + " of a READY one", k -> k.priority(2, wrong));
            refusedBusy("priority " + wrong + " of a BLOCKED one", k -> k.priority(1, wrong));
        }
        about("promise 3, It owns mutex 3 and the BASE is above the CEILING");
        for (int base = 21; base <= 31; base++) {
            int above = base;
            refused("priority " + base + " of a READY owner", Scenes::ceiled, k -> k.priority(2, above));
            refused("priority " + base + " of a BLOCKED owner", RefusedTest::sleeperWithCeiling, k -> k.priority(2, above));
        }
        about("promise 3, or it is FREE or a ZOMBIE: REFUSED");
        for (int base : new int[] {1, 5, 30, 31}) {
            refused("priority of a FREE one", Scenes::busy, k -> k.priority(7, base));
            refusedBusy("priority of a ZOMBIE", k -> k.priority(0, base));
        }
        refused("priority of one that is not made yet", Scenes::fresh, k -> k.priority(0, 9));
    }

    private static PriorityKernel sleeperWithCeiling() {
        PriorityKernel k = Scenes.ceiled();
        k.sleep(40);
        return k;
    }

    private static void lock() {
        about("promise 5, mutex m 0 .. 3");
        for (int wrong : outside(0, 3)) {
            refusedBusy("lock " + wrong, k -> k.lock(wrong));
        }
        about("promise 5, It owns m: REFUSED");
        for (int m = 0; m < 4; m++) {
            int mutex = m;
            refused("lock " + m + " again", () -> ownerOf(mutex), k -> k.lock(mutex));
        }
        refused("lock again, another waiting", Scenes::wanted, k -> k.lock(1));
        about("promise 5, m is 3 and its BASE is above the CEILING: REFUSED");
        refused("lock 3, without an owner", Scenes::aboveCeiling, k -> k.lock(3));
        refused("lock 3, owned by another", RefusedTest::ceilingOfAnother, k -> k.lock(3));
    }

    /** 2 owns this mutex and has the RESULT 41, and 6 is its equal still. */
    private static PriorityKernel ownerOf(int mutex) {
        PriorityKernel k = Scenes.busy();
        if (mutex == 0) {
            k.post(0);
            k.unlock(0);
            k.sleep(30);
        }
        k.lock(mutex);
        k.join(0);
        if (mutex == 3) {
            k.priority(6, 20);
        }
        return k;
    }

    /** 6 sleeps and owns mutex 3, and the BASE of 2 is above the CEILING. */
    private static PriorityKernel ceilingOfAnother() {
        PriorityKernel k = Scenes.busy();
        k.pass();
        k.lock(3);
        k.sleep(30);
        k.priority(2, 21);
        return k;
    }

    private static void unlock() {
        about("promise 6, mutex m 0 .. 3");
        for (int wrong : outside(0, 3)) {
            refused("unlock " + wrong, Scenes::wanted, k -> k.unlock(wrong));
        }
        about("promise 6, It does not own it: REFUSED");
        refusedBusy("unlock of a BLOCKED one's", k -> k.unlock(0));
        refusedBusy("unlock of nobody's", k -> k.unlock(2));
        refusedBusy("unlock of nobody's", k -> k.unlock(3));
        refused("unlock of a READY one's, which a third wants", RefusedTest::equalOfOwner, k -> k.unlock(1));
    }

    /** 6 is RUNNING; 2, READY, owns the mutex 1 that 7 wants. */
    private static PriorityKernel equalOfOwner() {
        PriorityKernel k = Scenes.wanted();
        k.pass();
        return k;
    }

    private static void await() {
        about("promise 7, condition c 0 .. 1");
        for (int wrong : outside(0, 1)) {
            refused("condition " + wrong, Scenes::wanted, k -> k.await(wrong, 1, 5));
        }
        about("promise 7, mutex m 0 .. 3");
        for (int wrong : outside(0, 3)) {
            refused("mutex " + wrong, Scenes::wanted, k -> k.await(0, wrong, 5));
        }
        about("promise 7, another n is REFUSED");
        for (int wrong : outside(0, 1000)) {
            refused("n = " + wrong, Scenes::wanted, k -> k.await(1, 1, wrong));
        }
        about("promise 7, It does not own m: REFUSED");
        for (int n : new int[] {0, 1, 1000}) {
            refusedBusy("a BLOCKED one's", k -> k.await(0, 0, n));
            refusedBusy("nobody's", k -> k.await(0, 2, n));
            refusedBusy("nobody's", k -> k.await(1, 3, n));
            refused("a READY one's, which a third wants", RefusedTest::equalOfOwner, k -> k.await(1, 1, n));
        }
    }

    private static void signal() {
        about("promise 8, condition c 0 .. 1");
        for (int wrong : outside(0, 1)) {
            refusedBusy("signal " + wrong, k -> k.signal(wrong, false));
            refusedBusy("signal " + wrong + " to all", k -> k.signal(wrong, true));
        }
        about("promise 8, none waits");
        unchanged("signal", Scenes::busy, k -> k.signal(1, false), 0);
        unchanged("signal to all", Scenes::busy, k -> k.signal(1, true), 0);
        unchanged("signal in a new kernel", Scenes::fresh, k -> k.signal(0, true), 0);
    }

    private static void down() {
        about("promise 9, semaphore s 0 .. 1");
        for (int wrong : outside(0, 1)) {
            refusedBusy("down " + wrong, k -> k.down(wrong, 5));
        }
        about("promise 9, deadline as in await");
        for (int wrong : outside(0, 1000)) {
            refusedBusy("n = " + wrong + ", the value being 0", k -> k.down(0, wrong));
            refusedBusy("n = " + wrong + ", the value being 3", k -> k.down(1, wrong));
        }
    }

    private static void post() {
        about("promise 10, semaphore s 0 .. 1");
        for (int wrong : outside(0, 1)) {
            refusedBusy("post " + wrong, k -> k.post(wrong));
        }
        about("promise 10, at 99: REFUSED");
        refused("the hundredth post", Scenes::full, k -> k.post(1));
    }

    private static void send() {
        about("promise 11, queue q 0 .. 1");
        for (int wrong : outside(0, 1)) {
            refusedBusy("queue " + wrong, k -> k.send(wrong, 5, 7));
        }
        about("promise 11, rank 0 .. 9");
        for (int wrong : outside(0, 9)) {
            refusedBusy("rank " + wrong + " to a receiver", k -> k.send(0, wrong, 7));
            refusedBusy("rank " + wrong + " to a full queue", k -> k.send(1, wrong, 7));
            refused("rank " + wrong + " to an empty queue", RefusedTest::emptyQueue, k -> k.send(0, wrong, 7));
        }
    }

    /** The one that was BLOCKED on receiving from queue 0 has got a message and sleeps. */
    private static PriorityKernel emptyQueue() {
        PriorityKernel k = Scenes.wanted();
        k.send(0, 0, 9);
        k.sleep(30);
        k.join(0);
        return k;
    }

    private static void receive() {
        about("promise 12, queue q 0 .. 1");
        for (int wrong : outside(0, 1)) {
            refusedBusy("queue " + wrong, k -> k.receive(wrong));
        }
    }

    private static void sleep() {
        about("promise 13, n 1 .. 1000");
        for (int wrong : outside(1, 1000)) {
            refusedBusy("sleep " + wrong, k -> k.sleep(wrong));
        }
    }

    private static void join() {
        about("promise 14, thread t 0 .. 7");
        for (int wrong : outside(0, 7)) {
            refusedBusy("join " + wrong, k -> k.join(wrong));
        }
        about("promise 14, It is FREE: REFUSED");
        refused("join", Scenes::busy, k -> k.join(7));
        refused("join one that has been joined", RefusedTest::emptyQueue, k -> k.join(0));
        about("promise 14, or R itself: REFUSED");
        refusedBusy("join", k -> k.join(2));
        refused("join, another being BLOCKED on joining R", () -> Scenes.joined(2), k -> k.join(2));
        about("promise 14, or some thread is BLOCKED on joining it: REFUSED");
        refused("join a READY one", () -> Scenes.joined(6), k -> k.join(6));
        refused("join a BLOCKED one", () -> Scenes.joined(4), k -> k.join(4));
    }

    private static void exit() {
        about("promise 15, It owns a mutex: REFUSED");
        for (int value : new int[] {LOWEST, -1, 0, 42, HIGHEST}) {
            refusedBusy("exit " + value, k -> k.exit(value));
            refused("exit " + value + ", a thread BLOCKED on joining it", () -> Scenes.joined(2), k -> k.exit(value));
        }
        for (int m = 0; m < 4; m++) {
            int mutex = m;
            refused("exit owning " + m + " alone", () -> ownerOfAlone(mutex), k -> k.exit(7));
        }
    }

    private static PriorityKernel ownerOfAlone(int mutex) {
        PriorityKernel k = ownerOf(mutex);
        if (mutex != 1) {
            k.unlock(1);
        }
        return k;
    }

    private static void tick() {
        about("promise 16, n (1 .. 100)");
        for (int wrong : outside(1, 100)) {
            refusedBusy("tick " + wrong, k -> k.tick(wrong));
            refused("tick " + wrong + ", the kernel being IDLE", Scenes::idle, k -> k.tick(wrong));
        }
    }

    private static void looks() {
        about("promises 17 to 20, a look changes nothing");
        unchanged("running", Scenes::busy, k -> k.running(), 2);
        for (int wrong : outside(0, 7)) {
            unchanged("tell of " + wrong, Scenes::busy, k -> k.tell(wrong, 0), NONE);
        }
        for (int wrong : outside(0, 5)) {
            unchanged("tell what " + wrong, Scenes::busy, k -> k.tell(2, wrong), NONE);
            refusedBusy("count " + wrong, k -> k.count(wrong));
        }
        for (int wrong : outside(0, 3)) {
            refusedBusy("owner " + wrong, k -> k.owner(wrong));
        }
    }

    private static void idle() {
        about("if the kernel is IDLE, they are REFUSED");
        refusedIdle("promise 4, pass", k -> k.pass());
        for (int m = 0; m < 4; m++) {
            int mutex = m;
            refusedIdle("promise 5, lock " + m, k -> k.lock(mutex));
            refusedIdle("promise 6, unlock " + m, k -> k.unlock(mutex));
            refusedIdle("promise 7, await with " + m, k -> k.await(0, mutex, 0));
            refusedIdle("promise 7, await with " + m + " and a deadline", k -> k.await(1, mutex, 1000));
        }
        for (int i = 0; i < 2; i++) {
            int which = i;
            refusedIdle("promise 9, down " + i, k -> k.down(which, 0));
            refusedIdle("promise 9, down " + i + " with a deadline", k -> k.down(which, 1));
            refusedIdle("promise 11, send to " + i, k -> k.send(which, 9, 7));
            refusedIdle("promise 12, receive from " + i, k -> k.receive(which));
        }
        refusedIdle("promise 13, sleep", k -> k.sleep(1));
        refusedIdle("promise 13, sleep long", k -> k.sleep(1000));
        for (int t = 0; t < 8; t++) {
            int thread = t;
            refusedIdle("promise 14, join " + t, k -> k.join(thread));
        }
        refusedIdle("promise 15, exit", k -> k.exit(7));
    }

    private static void refusedIdle(String what, ToLongFunction<PriorityKernel> call) {
        refused(what + ", all being BLOCKED", Scenes::idle, call);
        refused(what + ", all being FREE", Scenes::fresh, call);
        refused(what + ", the only one a ZOMBIE", RefusedTest::zombieAlone, call);
    }

    private static PriorityKernel zombieAlone() {
        PriorityKernel k = Scenes.fresh();
        k.post(1);
        k.spawn(5, true);
        k.send(1, 0, 1);
        k.exit(8);
        return k;
    }

    private static void idleAndOutOfRange() {
        about("this is tested after numbers out of range, which are REFUSED");
        for (int wrong : outside(0, 1000)) {
            refusedIdle("lock " + wrong, k -> k.lock(wrong));
            refusedIdle("unlock " + wrong, k -> k.unlock(wrong));
            refusedIdle("await on " + wrong, k -> k.await(wrong, 0, 0));
            refusedIdle("await with " + wrong, k -> k.await(0, wrong, 0));
            refusedIdle("await for " + wrong, k -> k.await(0, 0, wrong));
            refusedIdle("down " + wrong, k -> k.down(wrong, 0));
            refusedIdle("down for " + wrong, k -> k.down(1, wrong));
            refusedIdle("send to " + wrong, k -> k.send(wrong, 0, 0));
            refusedIdle("send of rank " + wrong, k -> k.send(0, wrong, 0));
            refusedIdle("receive from " + wrong, k -> k.receive(wrong));
            refusedIdle("sleep " + wrong, k -> k.sleep(wrong));
            refusedIdle("join " + wrong, k -> k.join(wrong));
        }
    }
}
