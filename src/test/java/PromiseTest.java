/** Each promise of the document by hand: ordinary calls, the edges next to them, and wrong inputs. */
public final class PromiseTest extends Check {
    private PromiseTest() {
    }

    public static void main(String[] args) {
        newObject();
        spawn();
        priority();
        pass();
        lock();
        inheriting();
        unlock();
        await();
        awaitMutexLater();
        signal();
        down();
        post();
        send();
        receive();
        sleep();
        join();
        exit();
        tick();
        slices();
        running();
        tell();
        owner();
        count();
        idle();
        end();
    }

    private static void newObject() {
        about("promise 1, new object");
        PriorityKernel k = new PriorityKernel(5, 20);
        runs(k, -1);
        for (int t = 0; t < 8; t++) {
            told(k, t, STATE, 0);
        }
        for (int m = 0; m < 4; m++) {
            due("owner", k.owner(m), -1);
        }
        for (int what = 0; what < 6; what++) {
            due("count " + what, k.count(what), 0);
        }
        int[][] slices = {{LOWEST, 1}, {-1, 1}, {0, 1}, {1, 1}, {2, 2}, {19, 19}, {20, 20}, {21, 20}, {HIGHEST, 20}};
        for (int[] s : slices) {
            PriorityKernel sliced = new PriorityKernel(s[0], 20);
            sliced.spawn(4, true);
            sliced.spawn(4, true);
            due("the tick before the slice " + s[0] + " ends", s[1] == 1 ? sliced.running() : sliced.tick(s[1] - 1), 0);
            due("the end of slice " + s[0], sliced.tick(1), 1);
        }
        int[][] ceilings = {{LOWEST, 1}, {0, 1}, {1, 1}, {2, 2}, {30, 30}, {31, 31}, {32, 31}, {HIGHEST, 31}};
        for (int[] c : ceilings) {
            PriorityKernel ceiled = new PriorityKernel(5, c[0]);
            ceiled.spawn(1, false);
            due("lock below the ceiling " + c[0], ceiled.lock(3), DONE);
            due("effective at the ceiling " + c[0], ceiled.tell(0, EFFECTIVE), c[1]);
        }
    }

    private static void spawn() {
        about("promise 2, spawn");
        PriorityKernel k = new PriorityKernel(2, 20);
        for (int wrong : new int[] {LOWEST, -1, 0, 32, HIGHEST}) {
            due("spawn " + wrong, k.spawn(wrong, false), REFUSED);
        }
        due("ready after refusals", k.count(5), 0);
        due("least base", k.spawn(1, false), 0);
        due("greatest base", k.spawn(31, false), 1);
        runs(k, 1);
        told(k, 1, STATE, 1);
        told(k, 1, BASE, 31);
        told(k, 1, EFFECTIVE, 31);
        told(k, 1, RESULT, 0);
        told(k, 1, WAITS_ON, 0);
        told(k, 1, DEADLINE, NONE);
        for (int t = 2; t < 8; t++) {
            due("spawn", k.spawn(4, true), t);
        }
        due("a ninth", k.spawn(31, false), REFUSED);
        due("exit", k.exit(77), DONE);
        due("a zombie is not free", k.spawn(4, false), REFUSED);
        runs(k, 2);
        due("the slice of 2", k.tick(2), 3);
        due("join", k.join(1), DONE);
        due("join result", k.tell(3, RESULT), 77);
        due("the least free", k.spawn(4, true), 1);
        told(k, 1, RESULT, 0);
        told(k, 1, BASE, 4);
        due("the new one is behind all equal ones", k.tick(2), 4);
        due("so it comes last", k.tick(2 * 4), 2);
        due("and then it runs", k.tick(2), 1);
        due("for a slice", k.tick(1), 1);
        due("of its own", k.tick(1), 3);
        notSlicedAfterSliced();
    }

    private static void notSlicedAfterSliced() {
        PriorityKernel k = new PriorityKernel(1, 20);
        k.spawn(4, true);
        k.exit(0);
        k.spawn(4, false);
        k.join(0);
        due("the number again", k.spawn(4, false), 0);
        due("policy is that of the new thread", k.tick(1), 1);
        due("pass", k.pass(), DONE);
        due("not sliced now", k.tick(3), 0);
    }

    private static void priority() {
        about("promise 3, priority");
        PriorityKernel k = with(5, 5, 3);
        due("raise", k.priority(1, 6), DONE);
        runs(k, 1);
        due("back", k.priority(1, 5), DONE);
        runs(k, 0);
        due("the same base gives a new stamp", k.priority(0, 5), DONE);
        runs(k, 1);
        due("least", k.priority(1, 1), DONE);
        told(k, 1, BASE, 1);
        due("greatest", k.priority(1, 31), DONE);
        told(k, 1, BASE, 31);
        for (int wrong : new int[] {LOWEST, -1, 0, 32, HIGHEST}) {
            due("base " + wrong, k.priority(1, wrong), REFUSED);
        }
        for (int wrong : new int[] {LOWEST, -1, 8, HIGHEST}) {
            due("thread " + wrong, k.priority(wrong, 3), REFUSED);
        }
        due("a free one", k.priority(3, 3), REFUSED);
        due("exit", k.exit(1), DONE);
        due("a zombie", k.priority(1, 3), REFUSED);
        told(k, 1, BASE, 31);
        priorityAndCeiling();
        priorityOfBlocked();
        priorityKeepsUsed();
    }

    private static void priorityAndCeiling() {
        PriorityKernel k = with(5);
        due("lock 3", k.lock(3), DONE);
        due("above the ceiling", k.priority(0, 21), REFUSED);
        told(k, 0, BASE, 5);
        due("at the ceiling", k.priority(0, 20), DONE);
        told(k, 0, BASE, 20);
        due("unlock 3", k.unlock(3), DONE);
        due("above it without mutex 3", k.priority(0, 21), DONE);
        due("now lock 3", k.lock(3), REFUSED);
        due("one that owns another mutex", k.lock(1), DONE);
        due("may go above", k.priority(0, 31), DONE);
    }

    private static void priorityOfBlocked() {
        PriorityKernel k = with(2, 5, 5);
        due("1 sleeps", k.sleep(3), BLOCKED);
        due("2 waits", k.down(0, 0), BLOCKED);
        due("a blocked one", k.priority(1, 9), DONE);
        told(k, 1, STATE, 2);
        told(k, 1, BASE, 9);
        due("raised while it sleeps", k.tick(3), 1);
        due("1 waits behind 2", k.down(0, 0), BLOCKED);
        due("equal again", k.priority(1, 5), DONE);
        due("a new base", k.priority(2, 5), DONE);
        due("post", k.post(0), DONE);
        told(k, 2, STATE, 1);
        told(k, 1, STATE, 2);
    }

    private static void priorityKeepsUsed() {
        PriorityKernel k = new PriorityKernel(3, 20);
        k.spawn(4, true);
        due("two used", k.tick(2), 0);
        due("only the stamp is new", k.priority(0, 4), DONE);
        k.spawn(4, true);
        due("the third tick ends the slice", k.tick(1), 1);
    }

    private static void pass() {
        about("promise 4, pass");
        PriorityKernel k = with(4, 4, 4, 2);
        due("pass", k.pass(), DONE);
        runs(k, 1);
        due("pass", k.pass(), DONE);
        runs(k, 2);
        due("pass", k.pass(), DONE);
        runs(k, 0);
        due("one of its own priority", k.priority(0, 8), DONE);
        due("pass", k.pass(), DONE);
        runs(k, 0);
        PriorityKernel sliced = new PriorityKernel(3, 20);
        sliced.spawn(4, true);
        due("two used", sliced.tick(2), 0);
        due("pass forgets them", sliced.pass(), DONE);
        sliced.spawn(4, true);
        due("so two more are left", sliced.tick(2), 0);
        due("and a third", sliced.tick(1), 1);
        due("an idle kernel", with().pass(), REFUSED);
    }

    private static void lock() {
        about("promise 5, lock");
        for (int m = 0; m < 4; m++) {
            PriorityKernel k = with(4, 4);
            k.post(0);
            k.down(0, 0);
            due("lock", k.lock(m), DONE);
            due("owner", k.owner(m), 0);
            due("again", k.lock(m), REFUSED);
            due("owner", k.owner(m), 0);
            runs(k, 0);
            due("the next has priority", k.priority(1, 20), DONE);
            if (m == 3) {
                due("the owner has the ceiling, so it sleeps", k.sleep(9), BLOCKED);
            }
            due("owned by another", k.lock(m), BLOCKED);
            told(k, 1, STATE, 2);
            told(k, 1, WAITS_ON, 10 + m);
            told(k, 1, DEADLINE, NONE);
            due("owner", k.owner(m), 0);
        }
        PriorityKernel k = with(4);
        for (int wrong : new int[] {LOWEST, -1, 4, HIGHEST}) {
            due("lock " + wrong, k.lock(wrong), REFUSED);
        }
        lockKeepsTurn();
        lockResult();
        ceilingOfLock();
    }

    private static void lockKeepsTurn() {
        PriorityKernel k = new PriorityKernel(3, 20);
        k.spawn(4, true);
        k.spawn(4, true);
        due("two used", k.tick(2), 0);
        due("lock", k.lock(0), DONE);
        runs(k, 0);
        due("used stays", k.tick(1), 1);
    }

    private static void lockResult() {
        PriorityKernel k = with(2, 6);
        due("down times out", k.down(0, 1), BLOCKED);
        due("lock", k.lock(0), DONE);
        due("its deadline", k.tick(1), 1);
        told(k, 1, RESULT, TIMED_OUT);
        due("lock", k.lock(0), BLOCKED);
        told(k, 1, RESULT, TIMED_OUT);
        due("unlock", k.unlock(0), DONE);
        told(k, 1, RESULT, 0);
        told(k, 1, WAITS_ON, 0);
        runs(k, 1);
        due("down times out", k.down(0, 1), BLOCKED);
        due("tick", k.tick(1), 1);
        told(k, 1, RESULT, TIMED_OUT);
        due("lock a free one", k.lock(1), DONE);
        told(k, 1, RESULT, 0);
    }

    private static void ceilingOfLock() {
        PriorityKernel k = with(4, 20, 21);
        due("base above the ceiling", k.lock(3), REFUSED);
        due("owner", k.owner(3), -1);
        due("2 ends", k.exit(0), DONE);
        due("base at the ceiling", k.lock(3), DONE);
        told(k, 1, EFFECTIVE, 20);
        due("1 sleeps with it", k.sleep(5), BLOCKED);
        due("0 locks 1", k.lock(1), DONE);
        due("3 comes", k.spawn(25, false), 3);
        due("3 waits for 0", k.lock(1), BLOCKED);
        told(k, 0, EFFECTIVE, 25);
        due("only the base is looked at", k.lock(3), BLOCKED);
        told(k, 1, EFFECTIVE, 20);
    }

    private static void inheriting() {
        about("effective priorities");
        int[][] protocols = {{0, 2}, {1, 9}, {2, 9}, {3, 20}};
        for (int[] p : protocols) {
            PriorityKernel k = with(2);
            k.lock(p[0]);
            k.sleep(9);
            k.spawn(9, false);
            due("lock " + p[0], k.lock(p[0]), BLOCKED);
            due("effective of the owner of " + p[0], k.tell(0, EFFECTIVE), p[1]);
            told(k, 0, BASE, 2);
            due("raised while it waits", k.priority(1, 25), DONE);
            due("effective of the owner of " + p[0], k.tell(0, EFFECTIVE), p[1] == 9 ? 25 : p[1]);
        }
        chain();
        ring();
    }

    private static void chain() {
        PriorityKernel k = with(2);
        k.lock(2);
        k.spawn(3, false);
        k.lock(1);
        due("1 waits for 0", k.lock(2), BLOCKED);
        k.spawn(4, false);
        due("2 waits for 1", k.lock(1), BLOCKED);
        told(k, 1, EFFECTIVE, 4);
        told(k, 0, EFFECTIVE, 4);
        k.spawn(15, false);
        due("3 waits for 1 too", k.lock(1), BLOCKED);
        told(k, 0, EFFECTIVE, 15);
        told(k, 2, EFFECTIVE, 4);
        due("0 unlocks", k.unlock(2), DONE);
        told(k, 0, EFFECTIVE, 2);
        runs(k, 1);
        due("1 unlocks", k.unlock(1), DONE);
        due("the greatest owns it", k.owner(1), 3);
        told(k, 1, EFFECTIVE, 3);
    }

    private static void ring() {
        PriorityKernel k = with(2);
        k.lock(1);
        k.spawn(3, false);
        k.lock(2);
        due("1 waits for 0", k.lock(1), BLOCKED);
        due("0 waits for 1", k.lock(2), BLOCKED);
        told(k, 0, EFFECTIVE, 3);
        told(k, 1, EFFECTIVE, 3);
        k.spawn(8, false);
        due("2 waits behind the ring", k.lock(1), BLOCKED);
        told(k, 0, EFFECTIVE, 8);
        told(k, 1, EFFECTIVE, 8);
        due("2 falls", k.priority(2, 1), DONE);
        told(k, 0, EFFECTIVE, 3);
        told(k, 1, EFFECTIVE, 3);
        due("1 falls", k.priority(1, 1), DONE);
        told(k, 0, EFFECTIVE, 2);
        told(k, 1, EFFECTIVE, 2);
    }

    private static void unlock() {
        about("promise 6, unlock");
        PriorityKernel k = with(4, 4);
        due("owned by nobody", k.unlock(0), REFUSED);
        due("lock", k.lock(0), DONE);
        due("pass", k.pass(), DONE);
        due("owned by another", k.unlock(0), REFUSED);
        due("owner", k.owner(0), 0);
        due("pass", k.pass(), DONE);
        due("unlock", k.unlock(0), DONE);
        due("owner", k.owner(0), -1);
        due("again", k.unlock(0), REFUSED);
        for (int wrong : new int[] {LOWEST, -1, 4, HIGHEST}) {
            due("unlock " + wrong, k.unlock(wrong), REFUSED);
        }
        for (int m = 0; m < 4; m++) {
            givenInOrder(m);
        }
        unlockKeepsTurn();
    }

    private static void givenInOrder(int m) {
        PriorityKernel k = with(1);
        k.lock(m);
        k.sleep(1);
        for (int base : new int[] {5, 7, 7, 6}) {
            k.spawn(base, false);
            due("wait", k.lock(m), BLOCKED);
        }
        k.tick(1);
        due("unlock", k.unlock(m), DONE);
        for (int next : new int[] {2, 3, 4, 1}) {
            due("the next owner of " + m, k.owner(m), next);
            told(k, next, STATE, 1);
            told(k, next, WAITS_ON, 0);
            runs(k, next);
            due("unlock", k.unlock(m), DONE);
            // With the ceiling the next owner runs at once; without it, it waits its turn behind its equals.
            if (m != 3) {
                due("sleep", k.sleep(1000), BLOCKED);
            }
        }
        due("nobody left", k.owner(m), -1);
    }

    private static void unlockKeepsTurn() {
        PriorityKernel k = new PriorityKernel(3, 20);
        k.spawn(4, true);
        k.lock(0);
        k.spawn(4, true);
        due("two used", k.tick(2), 0);
        due("1 has priority", k.priority(1, 5), DONE);
        due("1 waits", k.lock(0), BLOCKED);
        due("1 falls", k.priority(1, 4), DONE);
        due("unlock", k.unlock(0), DONE);
        runs(k, 0);
        due("the end of its slice", k.tick(1), 1);
    }

    private static void await() {
        about("promise 7, await");
        PriorityKernel k = with(4);
        due("not its own", k.await(0, 0, 0), REFUSED);
        for (int m = 0; m < 4; m++) {
            k.lock(m);
        }
        for (int wrong : new int[] {LOWEST, -1, 2, HIGHEST}) {
            due("condition " + wrong, k.await(wrong, 0, 0), REFUSED);
        }
        for (int wrong : new int[] {LOWEST, -1, 4, HIGHEST}) {
            due("mutex " + wrong, k.await(0, wrong, 0), REFUSED);
        }
        for (int wrong : new int[] {LOWEST, -1, 1001, HIGHEST}) {
            due("span " + wrong, k.await(0, 0, wrong), REFUSED);
        }
        runs(k, 0);
        due("still owned", k.owner(0), 0);
        k.tick(7);
        due("await", k.await(1, 2, 1000), BLOCKED);
        told(k, 0, STATE, 2);
        told(k, 0, WAITS_ON, 21);
        told(k, 0, DEADLINE, 1007);
        due("the mutex has no owner", k.owner(2), -1);
        due("the other one has", k.owner(1), 0);
        for (int i = 0; i < 9; i++) {
            due("ticks", k.tick(100), -1);
        }
        due("one tick before", k.tick(99), -1);
        due("the deadline", k.tick(1), 0);
        told(k, 0, RESULT, TIMED_OUT);
        told(k, 0, DEADLINE, NONE);
        told(k, 0, WAITS_ON, 0);
        due("it owns the mutex again", k.owner(2), 0);
        due("no deadline", k.await(0, 2, 0), BLOCKED);
        told(k, 0, DEADLINE, NONE);
        told(k, 0, WAITS_ON, 20);
        due("wake", k.signal(0, false), 1);
        told(k, 0, RESULT, 0);
        due("it owns the mutex again", k.owner(2), 0);
        due("the least span", k.await(0, 2, 1), BLOCKED);
        due("the next tick", k.tick(1), 0);
        told(k, 0, RESULT, TIMED_OUT);
        awaitOfAnothersMutex();
    }

    private static void awaitOfAnothersMutex() {
        PriorityKernel k = with(4, 4);
        due("0 locks", k.lock(0), DONE);
        due("pass", k.pass(), DONE);
        due("owned by another", k.await(0, 0, 0), REFUSED);
        due("it waits", k.lock(0), BLOCKED);
        due("0 awaits", k.await(0, 0, 0), BLOCKED);
        due("the mutex is given", k.owner(0), 1);
        runs(k, 1);
        told(k, 1, RESULT, 0);
    }

    private static void awaitMutexLater() {
        about("promise 7, await, the mutex being owned");
        PriorityKernel k = with(2, 6);
        k.lock(1);
        k.await(0, 1, 3);
        due("0 locks", k.lock(1), DONE);
        due("the deadline", k.tick(3), 0);
        told(k, 1, RESULT, TIMED_OUT);
        told(k, 1, WAITS_ON, 11);
        told(k, 1, DEADLINE, NONE);
        told(k, 0, EFFECTIVE, 6);
        due("no more on the condition", k.signal(0, true), 0);
        due("unlock", k.unlock(1), DONE);
        due("owner", k.owner(1), 1);
        told(k, 1, RESULT, TIMED_OUT);
        runs(k, 1);
        due("again", k.await(0, 1, 3), BLOCKED);
        due("0 locks", k.lock(1), DONE);
        due("woken", k.signal(0, false), 1);
        told(k, 1, RESULT, 0);
        told(k, 1, WAITS_ON, 11);
        told(k, 1, DEADLINE, NONE);
        due("the deadline does not come", k.tick(5), 0);
        told(k, 1, WAITS_ON, 11);
        due("unlock", k.unlock(1), DONE);
        told(k, 1, RESULT, 0);
        runs(k, 1);
        due("a lock after a timeout", k.await(0, 1, 1), BLOCKED);
        due("0 locks 0", k.lock(0), DONE);
        due("the deadline", k.tick(1), 1);
        due("lock", k.lock(0), BLOCKED);
        told(k, 1, RESULT, TIMED_OUT);
        due("unlock", k.unlock(0), DONE);
        told(k, 1, RESULT, 0);
    }

    private static void signal() {
        about("promise 8, signal");
        PriorityKernel k = new PriorityKernel(5, 20);
        for (int wrong : new int[] {LOWEST, -1, 2, HIGHEST}) {
            due("condition " + wrong, k.signal(wrong, true), REFUSED);
            due("condition " + wrong, k.signal(wrong, false), REFUSED);
        }
        due("none waits", k.signal(0, false), 0);
        due("none waits", k.signal(1, true), 0);
        for (int base : new int[] {3, 5, 5, 4}) {
            k.spawn(base, false);
            k.lock(0);
            due("await", k.await(0, 0, 0), BLOCKED);
        }
        due("the other condition", k.signal(1, true), 0);
        due("an idle kernel may", k.signal(0, false), 1);
        due("the first waiter", k.owner(0), 1);
        runs(k, 1);
        due("all", k.signal(0, true), 3);
        due("owner", k.owner(0), 1);
        for (int t : new int[] {0, 2, 3}) {
            told(k, t, WAITS_ON, 10);
        }
        due("none left", k.signal(0, true), 0);
        due("unlock", k.unlock(0), DONE);
        due("owner", k.owner(0), 2);
        wokenOneByOne();
        wokenWaitsFromNow();
    }

    private static void wokenOneByOne() {
        PriorityKernel k = new PriorityKernel(5, 20);
        for (int m = 0; m < 3; m++) {
            k.spawn(4, false);
            k.lock(m);
            k.await(1, m, 0);
        }
        due("all of equal priority", k.signal(1, true), 3);
        runs(k, 0);
        due("ready", k.count(5), 3);
        due("pass", k.pass(), DONE);
        runs(k, 1);
        due("pass", k.pass(), DONE);
        runs(k, 2);
    }

    /** A thread that was BLOCKED on a condition is BLOCKED on the mutex only since it was woken. */
    private static void wokenWaitsFromNow() {
        PriorityKernel k = with(4);
        k.lock(0);
        k.await(0, 0, 0);
        k.spawn(2, false);
        k.lock(0);
        k.spawn(4, false);
        due("2 waits for the mutex", k.lock(0), BLOCKED);
        due("0 is woken", k.signal(0, false), 1);
        due("unlock", k.unlock(0), DONE);
        due("2 waited longer", k.owner(0), 2);
    }

    private static void down() {
        about("promise 9, down");
        PriorityKernel k = with(2, 6);
        for (int wrong : new int[] {LOWEST, -1, 2, HIGHEST}) {
            due("semaphore " + wrong, k.down(wrong, 0), REFUSED);
        }
        for (int wrong : new int[] {LOWEST, -1, 1001, HIGHEST}) {
            due("span " + wrong, k.down(0, wrong), REFUSED);
        }
        due("post", k.post(1), DONE);
        due("post", k.post(1), DONE);
        due("down", k.down(1, 0), DONE);
        due("value", k.count(1), 1);
        due("down with a span", k.down(1, 1000), DONE);
        due("value", k.count(1), 0);
        told(k, 1, DEADLINE, NONE);
        runs(k, 1);
        due("down", k.down(1, 0), BLOCKED);
        told(k, 1, WAITS_ON, 31);
        told(k, 1, DEADLINE, NONE);
        due("no deadline", k.tick(100), 0);
        due("post", k.post(1), DONE);
        runs(k, 1);
        due("the value goes to the waiter", k.count(1), 0);
        due("down with a deadline", k.down(0, 2), BLOCKED);
        told(k, 1, WAITS_ON, 30);
        told(k, 1, DEADLINE, 102);
        due("a tick before", k.tick(1), 0);
        due("the deadline", k.tick(1), 1);
        told(k, 1, RESULT, TIMED_OUT);
        told(k, 1, DEADLINE, NONE);
        due("post", k.post(0), DONE);
        due("it waits no more", k.count(0), 1);
        due("down", k.down(0, 5), DONE);
        told(k, 1, RESULT, 0);
        due("the longest span", k.down(0, 1000), BLOCKED);
        told(k, 1, DEADLINE, 1102);
    }

    private static void post() {
        about("promise 10, post");
        PriorityKernel k = new PriorityKernel(5, 20);
        for (int wrong : new int[] {LOWEST, -1, 2, HIGHEST}) {
            due("post " + wrong, k.post(wrong), REFUSED);
        }
        for (int value = 1; value <= 99; value++) {
            due("post", k.post(0), DONE);
            due("value", k.count(0), value);
        }
        due("at 99", k.post(0), REFUSED);
        due("value", k.count(0), 99);
        due("the other", k.count(1), 0);
        for (int base : new int[] {3, 5, 5, 4}) {
            k.spawn(base, false);
            due("wait", k.down(1, 50), BLOCKED);
        }
        for (int next : new int[] {1, 2, 3, 0}) {
            due("post", k.post(1), DONE);
            told(k, next, STATE, 1);
            told(k, next, RESULT, 0);
            told(k, next, DEADLINE, NONE);
            told(k, next, WAITS_ON, 0);
            due("value", k.count(1), 0);
        }
        due("post", k.post(1), DONE);
        due("value", k.count(1), 1);
        postAfterTimeout();
    }

    private static void postAfterTimeout() {
        PriorityKernel k = with(4);
        k.down(0, 1);
        k.tick(1);
        told(k, 0, RESULT, TIMED_OUT);
        due("down", k.down(0, 9), BLOCKED);
        told(k, 0, RESULT, TIMED_OUT);
        due("post", k.post(0), DONE);
        told(k, 0, RESULT, 0);
        due("the old deadline is gone", k.sleep(100), BLOCKED);
        due("ticks", k.tick(20), -1);
    }

    private static void send() {
        about("promise 11, send");
        PriorityKernel k = with(2, 6);
        for (int wrong : new int[] {LOWEST, -1, 2, HIGHEST}) {
            due("queue " + wrong, k.send(wrong, 0, 0), REFUSED);
        }
        for (int wrong : new int[] {LOWEST, -1, 10, HIGHEST}) {
            due("rank " + wrong, k.send(0, wrong, 0), REFUSED);
        }
        due("nothing came in", k.count(2), 0);
        k.down(0, 1);
        k.tick(1);
        told(k, 1, RESULT, TIMED_OUT);
        due("least rank", k.send(1, 0, HIGHEST), DONE);
        told(k, 1, RESULT, 0);
        due("greatest rank", k.send(1, 9, LOWEST), DONE);
        due("send", k.send(1, 0, 5), DONE);
        due("send", k.send(1, 9, 6), DONE);
        due("messages", k.count(3), 4);
        due("the other queue", k.count(2), 0);
        k.down(0, 1);
        k.tick(1);
        due("full", k.send(1, 9, 7), BLOCKED);
        told(k, 1, WAITS_ON, 41);
        told(k, 1, DEADLINE, NONE);
        told(k, 1, RESULT, TIMED_OUT);
        due("messages", k.count(3), 4);
        int[] values = {LOWEST, 6, 7, HIGHEST, 5};
        for (int i = 0; i < values.length; i++) {
            due("receive", i == 0 ? k.receive(1) : receiveBy(k, 0), DONE);
            due("the value", k.tell(0, RESULT), values[i]);
            told(k, 1, RESULT, 0);
            due("messages", k.count(3), i == 0 ? 4 : 4 - i);
        }
        sendToReceivers(0);
        sendToReceivers(1);
        orderOfRanks();
    }

    private static void orderOfRanks() {
        int[][] sent = {{1, 9, 1, 5}, {9, 1, 9, 1}, {0, 1, 2, 3}, {3, 2, 1, 0}, {4, 4, 4, 4}, {5, 0, 0, 5}};
        int[][] order = {{1, 3, 0, 2}, {0, 2, 1, 3}, {3, 2, 1, 0}, {0, 1, 2, 3}, {0, 1, 2, 3}, {0, 3, 1, 2}};
        for (int i = 0; i < sent.length; i++) {
            PriorityKernel k = with(4);
            for (int value = 0; value < 4; value++) {
                due("send", k.send(0, sent[i][value], value), DONE);
            }
            for (int value : order[i]) {
                due("receive", k.receive(0), DONE);
                due("the value in row " + i, k.tell(0, RESULT), value);
            }
        }
    }

    private static int receiveBy(PriorityKernel k, int thread) {
        k.priority(thread, 30);
        runs(k, thread);
        return k.receive(1);
    }

    private static void sendToReceivers(int q) {
        PriorityKernel k = with(1);
        for (int base : new int[] {5, 7, 7, 6}) {
            k.spawn(base, false);
            due("wait", k.receive(q), BLOCKED);
        }
        for (int next : new int[] {2, 3, 4, 1}) {
            due("send", k.send(q, 0, -next), DONE);
            told(k, next, STATE, 1);
            told(k, next, RESULT, -next);
            told(k, 0, RESULT, 0);
            due("it is not put in", k.count(2 + q), 0);
            due("the sender goes on", k.priority(next, 1), DONE);
            runs(k, 0);
        }
        due("send", k.send(q, 0, 8), DONE);
        due("it is put in", k.count(2 + q), 1);
    }

    private static void receive() {
        about("promise 12, receive");
        PriorityKernel k = with(1);
        for (int wrong : new int[] {LOWEST, -1, 2, HIGHEST}) {
            due("queue " + wrong, k.receive(wrong), REFUSED);
        }
        for (int i = 0; i < 4; i++) {
            due("send", k.send(0, 5, i), DONE);
        }
        int[][] senders = {{5, 4}, {7, 5}, {7, 6}, {6, 9}};
        for (int[] s : senders) {
            int number = k.spawn(s[0], false);
            due("a full queue", k.send(0, s[1], 10 * number), BLOCKED);
            told(k, number, WAITS_ON, 40);
        }
        int[] values = {0, 1, 30, 40, 2, 3, 20, 10};
        int[] woken = {2, 3, 4, 1};
        for (int i = 0; i < values.length; i++) {
            runs(k, 0);
            due("receive", k.receive(0), DONE);
            due("the value", k.tell(0, RESULT), values[i]);
            due("messages", k.count(2), i < 4 ? 4 : 7 - i);
            if (i < 4) {
                told(k, woken[i], STATE, 1);
                told(k, woken[i], RESULT, 0);
                runs(k, woken[i]);
                due("sleep", k.sleep(1000), BLOCKED);
            }
        }
        due("an empty queue", k.receive(0), BLOCKED);
        told(k, 0, WAITS_ON, 50);
        told(k, 0, DEADLINE, NONE);
        runs(k, -1);
        due("another", k.spawn(1, false), 5);
        due("the other queue", k.receive(1), BLOCKED);
        told(k, 5, WAITS_ON, 51);
    }

    private static void sleep() {
        about("promise 13, sleep");
        PriorityKernel k = with(4, 4);
        for (int wrong : new int[] {LOWEST, -1, 0, 1001, HIGHEST}) {
            due("sleep " + wrong, k.sleep(wrong), REFUSED);
        }
        runs(k, 0);
        k.down(0, 1);
        k.pass();
        k.tick(1);
        k.pass();
        told(k, 0, RESULT, TIMED_OUT);
        due("sleep", k.sleep(2), BLOCKED);
        told(k, 0, STATE, 2);
        told(k, 0, WAITS_ON, 60);
        told(k, 0, DEADLINE, 3);
        told(k, 0, RESULT, TIMED_OUT);
        runs(k, 1);
        due("a tick before", k.tick(1), 1);
        told(k, 0, STATE, 2);
        due("the deadline", k.tick(1), 1);
        told(k, 0, STATE, 1);
        told(k, 0, RESULT, 0);
        told(k, 0, DEADLINE, NONE);
        told(k, 0, WAITS_ON, 0);
        due("the longest", k.sleep(1000), BLOCKED);
        told(k, 1, DEADLINE, 1003);
        due("the shortest", k.sleep(1), BLOCKED);
        runs(k, -1);
        due("the next tick", k.tick(1), 0);
    }

    private static void join() {
        about("promise 14, join");
        PriorityKernel k = with(6, 4, 3);
        for (int wrong : new int[] {LOWEST, -1, 8, HIGHEST}) {
            due("thread " + wrong, k.join(wrong), REFUSED);
        }
        due("itself", k.join(0), REFUSED);
        due("a free one", k.join(3), REFUSED);
        due("join", k.join(2), BLOCKED);
        told(k, 0, WAITS_ON, 72);
        told(k, 0, DEADLINE, NONE);
        due("one that is joined", k.join(2), REFUSED);
        runs(k, 1);
        due("a joiner may be joined", k.join(0), BLOCKED);
        told(k, 1, WAITS_ON, 70);
        due("a ring of joins", k.join(1), BLOCKED);
        told(k, 2, WAITS_ON, 71);
        runs(k, -1);
        PriorityKernel z = with(6, 4);
        due("end", z.exit(LOWEST), DONE);
        told(z, 0, STATE, 3);
        due("a zombie", z.join(0), DONE);
        told(z, 0, STATE, 0);
        told(z, 1, RESULT, LOWEST);
        runs(z, 1);
        due("it is free now", z.join(0), REFUSED);
        told(z, 1, RESULT, LOWEST);
        due("and can be made anew", z.spawn(4, false), 0);
        due("a ready one", z.join(0), BLOCKED);
        due("end", z.exit(9), DONE);
        told(z, 1, RESULT, 9);
        told(z, 0, STATE, 0);
    }

    private static void exit() {
        about("promise 15, exit");
        PriorityKernel k = with(6, 4);
        for (int m = 0; m < 4; m++) {
            due("lock", k.lock(m), DONE);
            due("it owns a mutex", k.exit(3), REFUSED);
            told(k, 0, STATE, 1);
            due("unlock", k.unlock(m), DONE);
        }
        due("1 owns one", k.priority(1, 7), DONE);
        due("lock", k.lock(0), DONE);
        due("1 back", k.priority(1, 4), DONE);
        due("another's mutex does not matter", k.exit(HIGHEST), DONE);
        told(k, 0, STATE, 3);
        told(k, 0, BASE, 6);
        told(k, 0, EFFECTIVE, 6);
        told(k, 0, RESULT, HIGHEST);
        told(k, 0, WAITS_ON, 0);
        told(k, 0, DEADLINE, NONE);
        runs(k, 1);
        due("ready", k.count(5), 1);
        due("unlock", k.unlock(0), DONE);
        due("a thread to be joined", k.spawn(2, false), 2);
        due("join", k.join(2), BLOCKED);
        due("end", k.exit(-5), DONE);
        told(k, 2, STATE, 0);
        told(k, 2, RESULT, NONE);
        told(k, 1, STATE, 1);
        told(k, 1, RESULT, -5);
        told(k, 1, WAITS_ON, 0);
        runs(k, 1);
        due("the last ends", k.exit(0), DONE);
        runs(k, -1);
        due("nobody is there to end", k.exit(0), REFUSED);
    }

    private static void tick() {
        about("promise 16, tick");
        PriorityKernel k = new PriorityKernel(5, 20);
        for (int wrong : new int[] {LOWEST, -1, 0, 101, HIGHEST}) {
            due("tick " + wrong, k.tick(wrong), REFUSED);
        }
        due("time", k.count(4), 0);
        due("an idle kernel", k.tick(1), -1);
        due("time", k.count(4), 1);
        due("the most", k.tick(100), -1);
        due("time", k.count(4), 101);
        for (int t = 0; t < 4; t++) {
            k.spawn(4, false);
        }
        for (int wrong : new int[] {LOWEST, -1, 0, 101, HIGHEST}) {
            due("tick " + wrong + " with a thread running", k.tick(wrong), REFUSED);
        }
        due("time", k.count(4), 101);
        for (int t = 0; t < 3; t++) {
            k.pass();
        }
        // 3, 2, 1, 0 sleep in this order, to the same moment.
        for (int t = 3; t >= 0; t--) {
            k.priority(t, 5);
            due("sleep", k.sleep(9), BLOCKED);
        }
        due("the least number first", k.tick(9), 0);
        due("ready", k.count(5), 4);
        due("pass", k.pass(), DONE);
        runs(k, 1);
        deadlinesOfMutex();
    }

    /** Both deadlines come at once: the lesser number takes the mutex, the other waits for it. */
    private static void deadlinesOfMutex() {
        PriorityKernel k = with(4);
        k.spawn(9, false);
        k.lock(0);
        k.await(0, 0, 5);
        k.lock(0);
        k.await(1, 0, 5);
        due("the deadlines", k.tick(5), 0);
        due("the lesser number owns it", k.owner(0), 0);
        told(k, 0, RESULT, TIMED_OUT);
        told(k, 1, RESULT, TIMED_OUT);
        told(k, 1, WAITS_ON, 10);
    }

    private static void slices() {
        about("promise 16, slices");
        PriorityKernel k = new PriorityKernel(3, 20);
        k.spawn(4, true);
        k.spawn(4, true);
        k.spawn(4, false);
        due("two of three", k.tick(2), 0);
        due("one above comes", k.spawn(9, false), 3);
        due("and runs", k.tick(10), 3);
        due("it sleeps", k.sleep(2), BLOCKED);
        runs(k, 0);
        due("the one that was running uses the tick", k.tick(1), 1);
        due("even if another wakes then", k.tick(1), 3);
        due("it ends", k.exit(0), DONE);
        runs(k, 1);
        due("one used, two more", k.tick(1), 1);
        due("slice over", k.tick(1), 2);
        due("not sliced", k.tick(50), 2);
        due("it ends", k.exit(0), DONE);
        due("several slices in a call", k.tick(7), 0);
        due("one of them is used", k.tick(1), 0);
        due("the slice ends", k.tick(1), 1);
        due("a sleeper starts anew", k.tick(2), 1);
        due("sleep", k.sleep(1), BLOCKED);
        due("wakes behind the other", k.tick(1), 0);
        due("the other's slice", k.tick(2), 1);
        due("the whole slice", k.tick(2), 1);
        due("is there again", k.tick(1), 0);
        sliceEndsBeforeDeadlines();
    }

    private static void sliceEndsBeforeDeadlines() {
        PriorityKernel k = new PriorityKernel(2, 20);
        k.spawn(4, true);
        k.spawn(4, true);
        k.sleep(2);
        due("the slice ends, then the sleeper wakes", k.tick(2), 1);
        due("pass", k.pass(), DONE);
        runs(k, 0);
    }

    private static void running() {
        about("promise 17, running");
        PriorityKernel k = with();
        runs(k, -1);
        k.spawn(3, false);
        runs(k, 0);
        k.spawn(3, false);
        runs(k, 0);
        k.spawn(4, false);
        runs(k, 2);
        k.sleep(5);
        runs(k, 0);
        k.lock(1);
        k.priority(1, 4);
        runs(k, 1);
        k.lock(1);
        runs(k, 0);
        due("an inherited priority", k.tell(0, EFFECTIVE), 4);
        due("2 is awake, but later", k.tick(5), 0);
        k.unlock(1);
        runs(k, 2);
        k.lock(3);
        k.spawn(19, false);
        due("the ceiling is above", k.running(), 2);
        k.spawn(21, false);
        runs(k, 4);
        k.sleep(1000);
        runs(k, 2);
        k.unlock(3);
        runs(k, 3);
    }

    private static void tell() {
        about("promise 18, tell");
        PriorityKernel k = with(4);
        for (int wrong : new int[] {LOWEST, -1, 8, HIGHEST}) {
            for (int what = 0; what < 6; what++) {
                told(k, wrong, what, NONE);
            }
        }
        for (int wrong : new int[] {LOWEST, -1, 6, HIGHEST}) {
            told(k, 0, wrong, NONE);
            told(k, 1, wrong, NONE);
        }
        told(k, 1, STATE, 0);
        for (int what = 1; what < 6; what++) {
            told(k, 1, what, NONE);
        }
        told(k, 0, STATE, 1);
        told(k, 0, BASE, 4);
        told(k, 0, EFFECTIVE, 4);
        told(k, 0, RESULT, 0);
        told(k, 0, WAITS_ON, 0);
        told(k, 0, DEADLINE, NONE);
        k.lock(3);
        told(k, 0, BASE, 4);
        told(k, 0, EFFECTIVE, 20);
        k.sleep(12);
        told(k, 0, STATE, 2);
        told(k, 0, EFFECTIVE, 20);
        told(k, 0, WAITS_ON, 60);
        told(k, 0, DEADLINE, 12);
        k.spawn(31, false);
        k.exit(HIGHEST);
        told(k, 1, STATE, 3);
        told(k, 1, BASE, 31);
        told(k, 1, EFFECTIVE, 31);
        told(k, 1, RESULT, HIGHEST);
        told(k, 1, WAITS_ON, 0);
        told(k, 1, DEADLINE, NONE);
        k.spawn(2, false);
        k.spawn(1, false);
        k.join(3);
        told(k, 2, WAITS_ON, 73);
        told(k, 7, STATE, 0);
    }

    private static void owner() {
        about("promise 19, owner");
        PriorityKernel k = with(4, 4);
        for (int wrong : new int[] {LOWEST, -1, 4, HIGHEST}) {
            due("owner " + wrong, k.owner(wrong), REFUSED);
        }
        for (int m = 0; m < 4; m++) {
            due("none", k.owner(m), -1);
            k.lock(m);
            due("owner", k.owner(m), 0);
        }
        k.unlock(3);
        due("none again", k.owner(3), -1);
        k.pass();
        k.lock(3);
        due("another", k.owner(3), 1);
        due("the others stay", k.owner(2), 0);
    }

    private static void count() {
        about("promise 20, count");
        PriorityKernel k = with(4, 4, 4);
        for (int wrong : new int[] {LOWEST, -1, 6, HIGHEST}) {
            due("count " + wrong, k.count(wrong), REFUSED);
        }
        k.post(0);
        k.post(1);
        k.post(1);
        k.send(0, 1, 1);
        k.send(1, 1, 1);
        k.send(1, 1, 1);
        k.send(1, 1, 1);
        k.tick(42);
        due("semaphore 0", k.count(0), 1);
        due("semaphore 1", k.count(1), 2);
        due("queue 0", k.count(2), 1);
        due("queue 1", k.count(3), 3);
        due("time", k.count(4), 42);
        due("ready", k.count(5), 3);
        k.sleep(1);
        due("a sleeper is not ready", k.count(5), 2);
        k.exit(0);
        due("nor is a zombie", k.count(5), 1);
        k.tick(1);
        due("one awake", k.count(5), 2);
    }

    private static void idle() {
        about("calls marked R, the kernel being idle");
        PriorityKernel k = with(4);
        k.post(0);
        k.send(0, 0, 1);
        k.sleep(1000);
        due("pass", k.pass(), REFUSED);
        due("lock", k.lock(0), REFUSED);
        due("unlock", k.unlock(0), REFUSED);
        due("await", k.await(0, 0, 0), REFUSED);
        due("down", k.down(0, 0), REFUSED);
        due("send", k.send(0, 0, 0), REFUSED);
        due("receive", k.receive(0), REFUSED);
        due("sleep", k.sleep(1), REFUSED);
        due("join", k.join(0), REFUSED);
        due("exit", k.exit(0), REFUSED);
        due("signal is not marked", k.signal(0, true), 0);
        due("post is not marked", k.post(0), DONE);
        due("priority is not marked", k.priority(0, 5), DONE);
        due("tick is not marked", k.tick(1), -1);
        due("value", k.count(0), 2);
        due("messages", k.count(2), 1);
        due("owner", k.owner(0), -1);
        told(k, 0, WAITS_ON, 60);
        told(k, 0, DEADLINE, 1000);
    }
}
