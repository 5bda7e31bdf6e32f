/**
 * Sentences that could be read in two ways if one did not look at their neighbours: each run here tells the way of the
 * document from the other one.
 */
public final class ReadingsTest extends Check {
    private static final int EARLIER = 77;

    private ReadingsTest() {
    }

    public static void main(String[] args) {
        spanOfDownIsLookedAtFirst();
        priorityKeepsUsed();
        priorityOfOneThatIsNotRunningKeepsUsed();
        priorityOfABlockedOne();
        passForgetsUsed();
        for (int m = 0; m < 4; m++) {
            awaitResultWithTheMutexFree(m);
            awaitResultWithTheMutexOwned(m, false);
            awaitResultWithTheMutexOwned(m, true);
            lockResult(m);
        }
        lockAfterAwait();
        ceilingIsGivenToOneAbove();
        ceilingIsTakenByOneAbove(false);
        ceilingIsTakenByOneAbove(true);
        raisedWaiterIsFirst();
        end();
    }

    private static void spanOfDownIsLookedAtFirst() {
        about("promise 9, deadline as in await; promise 7, another n is REFUSED; Terms, numbers out of range are REFUSED");
        PriorityKernel k = with(4);
        k.post(1);
        k.post(1);
        k.post(1);
        for (int wrong : outside(0, 1000)) {
            due("down with n = " + wrong, k.down(1, wrong), REFUSED);
        }
        due("the value", k.count(1), 3);
        int value = 3;
        for (int right : new int[] {0, 1, 1000}) {
            due("down with n = " + right, k.down(1, right), DONE);
            value--;
            due("the value", k.count(1), value);
        }
    }

    private static void priorityKeepsUsed() {
        about("promise 3, if it is READY, a new STAMP (its USED is not named)");
        for (int used = 1; used < 5; used++) {
            PriorityKernel k = new PriorityKernel(5, 20);
            k.spawn(4, true);
            due("ticks", k.tick(used), 0);
            due("priority", k.priority(0, 6), DONE);
            k.spawn(6, false);
            runs(k, 0);
            if (used < 4) {
                due("the tick before the end", k.tick(4 - used), 0);
            }
            due("the end of the slice, " + used + " having been USED before", k.tick(1), 1);
        }
    }

    private static void priorityOfOneThatIsNotRunningKeepsUsed() {
        about("promise 3, the same for one that is READY, but not RUNNING");
        PriorityKernel k = new PriorityKernel(3, 20);
        k.spawn(4, true);
        due("two of three", k.tick(2), 0);
        k.spawn(5, false);
        k.priority(0, 3);
        k.priority(0, 5);
        due("1 has the lesser STAMP", k.tick(9), 1);
        k.pass();
        runs(k, 0);
        due("the third", k.tick(1), 1);
    }

    private static void priorityOfABlockedOne() {
        about("promise 3, one that is BLOCKED; Terms, a thread that gets READY has a new STAMP and 0 USED");
        PriorityKernel k = new PriorityKernel(3, 20);
        k.spawn(4, true);
        due("two of three", k.tick(2), 0);
        k.down(0, 0);
        k.priority(0, 6);
        k.spawn(6, false);
        k.post(0);
        runs(k, 1);
        k.pass();
        due("the whole slice", k.tick(2), 0);
        due("its end", k.tick(1), 1);
    }

    private static void passForgetsUsed() {
        about("promise 4, Its STAMP is new and its USED 0");
        for (int used = 1; used < 5; used++) {
            PriorityKernel k = new PriorityKernel(5, 20);
            k.spawn(4, true);
            due("ticks", k.tick(used), 0);
            due("pass", k.pass(), DONE);
            k.spawn(4, false);
            due("the tick before the end", k.tick(4), 0);
            due("the end of the whole slice", k.tick(1), 1);
        }
    }

    /** 1 is RUNNING, above 0, and has a RESULT that no later call would give. */
    private static PriorityKernel withResult() {
        PriorityKernel k = with(2, 6, 9);
        k.exit(EARLIER);
        k.join(2);
        told(k, 1, RESULT, EARLIER);
        return k;
    }

    private static void awaitResultWithTheMutexFree(int m) {
        about("promise 7, it TAKES m, RESULT 0 or TIMED_OUT, mutex " + m + " having no owner");
        PriorityKernel woken = withResult();
        giveBackResult(woken, m);
        due("await", woken.await(0, m, 5), BLOCKED);
        told(woken, 1, RESULT, EARLIER);
        due("signal", woken.signal(0, false), 1);
        told(woken, 1, RESULT, 0);
        due("owner", woken.owner(m), 1);
        PriorityKernel late = withResult();
        giveBackResult(late, m);
        due("await", late.await(0, m, 5), BLOCKED);
        due("a tick before", late.tick(4), 0);
        told(late, 1, RESULT, EARLIER);
        due("the deadline", late.tick(1), 1);
        told(late, 1, RESULT, TIMED_OUT);
        due("owner", late.owner(m), 1);
    }

    /** 1 locks, which makes its RESULT 0, and joins one that ends at once. */
    private static void giveBackResult(PriorityKernel k, int m) {
        due("lock", k.lock(m), DONE);
        told(k, 1, RESULT, 0);
        k.spawn(31, false);
        k.exit(EARLIER);
        k.join(2);
        told(k, 1, RESULT, EARLIER);
    }

    private static void awaitResultWithTheMutexOwned(int m, boolean timedOut) {
        about("promise 7, it TAKES m, RESULT 0 or TIMED_OUT, mutex " + m + " being owned");
        int result = timedOut ? TIMED_OUT : 0;
        PriorityKernel k = withResult();
        giveBackResult(k, m);
        due("await", k.await(1, m, 5), BLOCKED);
        due("0 locks", k.lock(m), DONE);
        told(k, 1, RESULT, EARLIER);
        if (timedOut) {
            due("the deadline", k.tick(5), 0);
        } else {
            due("signal", k.signal(1, true), 1);
        }
        told(k, 1, WAITS_ON, 10 + m);
        told(k, 1, DEADLINE, NONE);
        told(k, 1, RESULT, result);
        due("the old deadline is no more", k.tick(9), 0);
        told(k, 1, RESULT, result);
        due("unlock", k.unlock(m), DONE);
        due("owner", k.owner(m), 1);
        told(k, 1, RESULT, result);
        runs(k, 1);
    }

    private static void lockResult(int m) {
        about("promise 5, RESULT 0 now or when it owns it, mutex " + m);
        PriorityKernel now = withResult();
        due("lock", now.lock(m), DONE);
        told(now, 1, RESULT, 0);
        PriorityKernel later = withResult();
        later.sleep(1);
        due("0 locks", later.lock(m), DONE);
        later.sleep(5);
        later.tick(1);
        told(later, 1, RESULT, 0);
        later.spawn(31, false);
        later.exit(EARLIER);
        later.join(2);
        due("lock", later.lock(m), BLOCKED);
        told(later, 1, RESULT, EARLIER);
        due("0 is awake", later.tick(4), 0);
        told(later, 1, RESULT, EARLIER);
        due("unlock", later.unlock(m), DONE);
        told(later, 1, RESULT, 0);
    }

    /** What a thread waited for before must not leak into its next wait for a mutex. */
    private static void lockAfterAwait() {
        about("promise 5 after promise 7");
        PriorityKernel k = with(2, 6);
        k.lock(0);
        k.await(0, 0, 1);
        k.lock(1);
        due("the deadline", k.tick(1), 1);
        told(k, 1, RESULT, TIMED_OUT);
        due("lock", k.lock(1), BLOCKED);
        told(k, 1, RESULT, TIMED_OUT);
        k.unlock(1);
        told(k, 1, RESULT, 0);
        about("promise 7 after promise 5");
        k.await(0, 1, 1);
        k.lock(1);
        due("the deadline", k.tick(1), 0);
        told(k, 1, RESULT, TIMED_OUT);
        k.unlock(1);
        told(k, 1, RESULT, TIMED_OUT);
        due("owner", k.owner(1), 1);
    }

    /** 0 owns mutex 3, for which 1 waits with a BASE that has been raised above the CEILING. */
    private static void ceilingIsGivenToOneAbove() {
        about("Terms, GIVING: its FIRST WAITER owns it, whatever its BASE is by now");
        PriorityKernel k = with(5);
        k.lock(3);
        k.sleep(1);
        k.spawn(20, false);
        due("1 waits", k.lock(3), BLOCKED);
        due("it does not own mutex 3", k.priority(1, 25), DONE);
        told(k, 1, BASE, 25);
        k.tick(1);
        due("unlock", k.unlock(3), DONE);
        due("owner", k.owner(3), 1);
        told(k, 1, EFFECTIVE, 25);
        told(k, 1, RESULT, 0);
        runs(k, 1);
        aboveTheCeilingAsOwner(k, 1);
    }

    private static void ceilingIsTakenByOneAbove(boolean timedOut) {
        about("promise 7, it TAKES mutex 3, whatever its BASE is by now");
        PriorityKernel k = with(5, 20);
        k.lock(3);
        due("await", k.await(0, 3, 4), BLOCKED);
        due("it does not own mutex 3", k.priority(1, 25), DONE);
        if (timedOut) {
            due("the deadline", k.tick(4), 1);
        } else {
            due("signal", k.signal(0, false), 1);
        }
        due("owner", k.owner(3), 1);
        told(k, 1, EFFECTIVE, 25);
        told(k, 1, RESULT, timedOut ? TIMED_OUT : 0);
        runs(k, 1);
        aboveTheCeilingAsOwner(k, 1);
    }

    private static void aboveTheCeilingAsOwner(PriorityKernel k, int owner) {
        due("promise 3, It owns mutex 3 and the BASE is above", k.priority(owner, 25), REFUSED);
        due("though it falls", k.priority(owner, 21), REFUSED);
        told(k, owner, BASE, 25);
        due("await", k.await(1, 3, 0), BLOCKED);
        due("no owner", k.owner(3), -1);
        due("signal", k.signal(1, true), 1);
        due("owner", k.owner(3), owner);
        due("unlock", k.unlock(3), DONE);
        due("promise 5, m is 3 and its BASE is above the CEILING", k.lock(3), REFUSED);
        due("promise 3, it does not own it any more", k.priority(owner, 21), DONE);
        due("still above", k.lock(3), REFUSED);
        due("at the CEILING", k.priority(owner, 20), DONE);
        due("lock", k.lock(3), DONE);
        told(k, owner, EFFECTIVE, 20);
    }

    private static void raisedWaiterIsFirst() {
        about("Terms, GIVING: the FIRST WAITER for mutex 3, one being raised above the CEILING");
        PriorityKernel k = with(5);
        k.lock(3);
        k.sleep(1);
        for (int base : new int[] {20, 19, 18}) {
            k.spawn(base, false);
            due("it waits", k.lock(3), BLOCKED);
        }
        due("the last waiter", k.priority(3, 31), DONE);
        k.tick(1);
        told(k, 0, EFFECTIVE, 20);
        due("unlock", k.unlock(3), DONE);
        due("owner", k.owner(3), 3);
        due("unlock", k.unlock(3), DONE);
        due("then the greatest of the others", k.owner(3), 1);
    }
}
