/** The edges in the section "Terms": what is first among equals, what is full, and priorities where threads wait for one another. */
public final class TermsTest extends Check {
    private TermsTest() {
    }

    public static void main(String[] args) {
        allFreeAtFirst();
        equalPrioritiesOfReady();
        stampsOfThoseThatGetReady();
        gettingReadyForgetsUsed();
        firstWaiterOfEquals();
        waiterKeepsItsPlace();
        waiterByEffective();
        waitsStartAnew();
        semaphoreValues();
        queueRoom();
        equalRanks();
        ranksOverManyTurns();
        ranksOfSenders();
        plainMutexInheritsNothing();
        ceilingMutex();
        inheritingMutexes();
        inheritedEqualIsNoChange();
        greatestOfSeveralWaiters();
        priorityLostWithTheMutex();
        newOwnerInherits();
        chains();
        chainIsCutByAPlainMutex();
        chainIsCutByOtherWaits();
        ceilingIsPassedOn();
        rings();
        ringWithTheCeiling();
        ringDoesNotHoldItselfUp();
        workedOutAfterEachSingleThing();
        givingOwnsAndGetsReady();
        takingIsOrGetsReady();
        end();
    }

    private static void allFreeAtFirst() {
        about("THREADS: all FREE at first; TIME is 0 at first; a value is 0 at first");
        PriorityKernel k = new PriorityKernel(1, 1);
        for (int t = 0; t < 8; t++) {
            told(k, t, STATE, IS_FREE);
        }
        for (int m = 0; m < 4; m++) {
            due("owner " + m, k.owner(m), -1);
        }
        for (int what = 0; what < 6; what++) {
            due("count " + what, k.count(what), 0);
        }
        runs(k, -1);
    }

    private static void equalPrioritiesOfReady() {
        about("THE RUNNING thread: of equal ones that with the least STAMP");
        PriorityKernel k = with(4, 4, 4, 4, 4, 4, 4, 4);
        for (int turn = 0; turn < 17; turn++) {
            runs(k, turn % 8);
            k.pass();
        }
        about("THE RUNNING thread: the greatest EFFECTIVE priority");
        PriorityKernel one = with(4, 5, 4);
        runs(one, 1);
        one.pass();
        runs(one, 1);
        PriorityKernel edges = with(1, 31, 30, 31);
        runs(edges, 1);
        edges.pass();
        runs(edges, 3);
    }

    private static void stampsOfThoseThatGetReady() {
        about("A thread that gets READY has a new STAMP");
        PriorityKernel slept = with(4, 4);
        slept.sleep(1);
        due("after a sleep", slept.tick(1), 1);
        PriorityKernel posted = with(4, 4);
        posted.down(0, 0);
        posted.post(0);
        runs(posted, 1);
        PriorityKernel late = with(4, 4);
        late.down(0, 1);
        due("after a deadline", late.tick(1), 1);
        PriorityKernel woken = with(4, 4);
        woken.lock(0);
        woken.await(0, 0, 0);
        woken.signal(0, false);
        runs(woken, 1);
        PriorityKernel received = with(4, 4);
        received.receive(0);
        received.send(0, 0, 3);
        runs(received, 1);
        PriorityKernel joined = with(4, 4, 4);
        joined.join(1);
        joined.exit(0);
        runs(joined, 2);
        PriorityKernel anew = with(4, 4);
        anew.exit(0);
        anew.join(0);
        due("made again", anew.spawn(4, false), 0);
        runs(anew, 1);
    }

    private static void gettingReadyForgetsUsed() {
        about("A thread that gets READY has 0 USED");
        PriorityKernel k = new PriorityKernel(3, 20);
        k.spawn(4, true);
        k.spawn(3, false);
        due("two of three", k.tick(2), 0);
        due("sleep", k.sleep(1), BLOCKED);
        due("it wakes", k.tick(1), 0);
        k.priority(1, 4);
        due("a whole slice", k.tick(2), 0);
        due("and no more", k.tick(1), 1);
    }

    private static void firstWaiterOfEquals() {
        about("THE FIRST WAITER: of equal ones the one that is BLOCKED on it the longest");
        for (int thing : new int[] {10, 11, 12, 13, 20, 21, 30, 31, 40, 41, 50, 51}) {
            PriorityKernel k = waitersInReverse(thing);
            for (int next = 4; next >= 1; next--) {
                serve(k, thing);
                if (k.running() != next) {
                    // One that gave its mutex to an equal runs on.
                    k.sleep(1000);
                }
                due("the next waiter for " + thing, k.running(), next);
                told(k, next, WAITS_ON, 0);
                putAside(k, thing);
            }
        }
    }

    /** 0 can serve; 4, 3, 2, 1 began to wait in this order, so that no order of numbers can be mistaken for it. */
    private static PriorityKernel waitersInReverse(int thing) {
        PriorityKernel k = with(1);
        prepare(k, thing);
        k.sleep(10);
        for (int t = 1; t <= 4; t++) {
            k.spawn(9, false);
            k.sleep(5 - t);
        }
        for (int t = 4; t >= 1; t--) {
            due("awake", k.tick(1), t);
            startToWait(k, thing);
            told(k, t, WAITS_ON, thing);
        }
        due("awake", k.tick(6), 0);
        return k;
    }

    private static void prepare(PriorityKernel k, int thing) {
        int which = thing % 10;
        if (thing / 10 == 1) {
            due("lock", k.lock(which), DONE);
        }
        for (int i = 0; thing / 10 == 4 && i < 4; i++) {
            due("send", k.send(which, 5, i), DONE);
        }
    }

    private static void startToWait(PriorityKernel k, int thing) {
        int which = thing % 10;
        switch (thing / 10) {
            case 1 -> k.lock(which);
            case 2 -> {
                k.lock(0);
                k.await(which, 0, 0);
            }
            case 3 -> k.down(which, 0);
            case 4 -> k.send(which, 5, 10);
            default -> k.receive(which);
        }
    }

    private static void serve(PriorityKernel k, int thing) {
        int which = thing % 10;
        switch (thing / 10) {
            case 1 -> k.unlock(which);
            case 2 -> k.signal(which, false);
            case 3 -> k.post(which);
            case 4 -> k.receive(which);
            default -> k.send(which, 0, 1);
        }
    }

    /** The one that was served must not stand in the way of the next; one that has a mutex has to serve the next itself. */
    private static void putAside(PriorityKernel k, int thing) {
        if (thing / 10 == 1) {
            return;
        }
        if (thing / 10 == 2) {
            k.unlock(0);
        }
        k.sleep(1000);
        runs(k, 0);
    }

    private static void waiterKeepsItsPlace() {
        about("A BLOCKED thread is BLOCKED since a moment, which a new BASE does not change");
        PriorityKernel k = with(1, 6, 6);
        k.down(0, 0);
        k.down(0, 0);
        k.priority(1, 3);
        k.priority(1, 6);
        k.post(0);
        told(k, 1, STATE, IS_READY);
        told(k, 2, STATE, IS_BLOCKED);
    }

    private static void waiterByEffective() {
        about("THE FIRST WAITER: the greatest EFFECTIVE priority");
        PriorityKernel k = with(2);
        k.lock(1);
        k.down(0, 0);
        k.spawn(5, false);
        k.down(0, 0);
        k.spawn(9, false);
        due("it raises 0, which waits", k.lock(1), BLOCKED);
        told(k, 0, EFFECTIVE, 9);
        due("post", k.post(0), DONE);
        told(k, 0, STATE, IS_READY);
        told(k, 1, STATE, IS_BLOCKED);
        PriorityKernel ceiled = with(2);
        ceiled.lock(3);
        ceiled.receive(0);
        ceiled.spawn(19, false);
        ceiled.receive(0);
        ceiled.spawn(1, false);
        due("send", ceiled.send(0, 0, 8), DONE);
        told(ceiled, 0, RESULT, 8);
        told(ceiled, 1, STATE, IS_BLOCKED);
        PriorityKernel below = with(9, 3);
        below.down(0, 0);
        below.down(0, 0);
        below.priority(0, 2);
        below.post(0);
        told(below, 1, STATE, IS_READY);
        told(below, 0, STATE, IS_BLOCKED);
    }

    private static void waitsStartAnew() {
        about("BLOCKED on it the longest: a new wait for it is a new moment");
        PriorityKernel k = with(1, 6, 6);
        k.down(0, 3);
        k.tick(1);
        k.down(0, 0);
        due("1 timed out", k.tick(2), 1);
        k.down(0, 0);
        k.post(0);
        told(k, 2, STATE, IS_READY);
        told(k, 1, STATE, IS_BLOCKED);
        PriorityKernel timedOut = with(6, 6, 1);
        timedOut.lock(0);
        timedOut.await(0, 0, 5);
        timedOut.sleep(1);
        timedOut.lock(0);
        timedOut.tick(1);
        due("1 waits for the mutex first", timedOut.lock(0), BLOCKED);
        timedOut.tick(4);
        told(timedOut, 0, WAITS_ON, 10);
        timedOut.unlock(0);
        due("the owner", timedOut.owner(0), 1);
    }

    private static void semaphoreValues() {
        about("SEMAPHORES 0 and 1 have a value 0 .. 99, 0 at first");
        for (int s = 0; s < 2; s++) {
            PriorityKernel k = with(4);
            due("at first", k.count(s), 0);
            for (int value = 1; value <= 99; value++) {
                due("post", k.post(s), DONE);
            }
            due("at the greatest", k.count(s), 99);
            due("one more", k.post(s), REFUSED);
            due("still", k.count(s), 99);
            due("the other", k.count(1 - s), 0);
            due("down", k.down(s, 0), DONE);
            due("below it", k.count(s), 98);
            due("there is room again", k.post(s), DONE);
            due("and no more", k.post(s), REFUSED);
            for (int value = 98; value >= 0; value--) {
                due("down", k.down(s, 1), DONE);
                due("value", k.count(s), value);
            }
            due("at the least", k.down(s, 0), BLOCKED);
            due("never below", k.count(s), 0);
        }
    }

    private static void queueRoom() {
        about("QUEUES 0 and 1 hold at most 4 messages");
        for (int q = 0; q < 2; q++) {
            PriorityKernel k = with(4, 3);
            for (int messages = 0; messages < 4; messages++) {
                due("messages", k.count(2 + q), messages);
                due("send", k.send(q, 0, messages), DONE);
            }
            due("full", k.count(2 + q), 4);
            due("the other", k.count(3 - q), 0);
            due("a fifth", k.send(q, 9, 4), BLOCKED);
            due("still", k.count(2 + q), 4);
            due("receive", k.receive(q), DONE);
            told(k, 1, RESULT, 0);
            due("the fifth came in", k.count(2 + q), 4);
            due("receive", k.receive(q), DONE);
            told(k, 0, RESULT, 4);
            due("room for one", k.count(2 + q), 3);
            due("send", k.send(q, 0, 5), DONE);
            due("full again", k.send(q, 0, 6), BLOCKED);
        }
    }

    private static void equalRanks() {
        about("of equal ranks the one that came into the queue first");
        for (int rank = 0; rank <= 9; rank++) {
            PriorityKernel k = with(4);
            for (int value = 0; value < 4; value++) {
                k.send(0, rank, value);
            }
            leave(k, 0, 1, 2, 3);
        }
        about("greater rank first");
        for (int rank = 1; rank <= 9; rank++) {
            PriorityKernel k = with(4);
            k.send(1, rank - 1, 0);
            k.send(1, rank, 1);
            k.send(1, rank - 1, 2);
            k.send(1, rank, 3);
            for (int value : new int[] {1, 3, 0, 2}) {
                k.receive(1);
                told(k, 0, RESULT, value);
            }
        }
    }

    /** Thread 0 is RUNNING and receives from queue 0. */
    private static void leave(PriorityKernel k, int... values) {
        for (int value : values) {
            runs(k, 0);
            due("receive", k.receive(0), DONE);
            told(k, 0, RESULT, value);
        }
    }

    /** The places of the queue are used over and over, with one to three messages staying in it. */
    private static void ranksOverManyTurns() {
        about("of equal ranks the one that came first, over many turns");
        for (int staying = 1; staying <= 3; staying++) {
            PriorityKernel k = with(4);
            for (int value = 0; value < staying; value++) {
                k.send(0, 5, value);
            }
            for (int value = staying; value < 25; value++) {
                due("send", k.send(0, 5, value), DONE);
                leave(k, value - staying);
                due("send above", k.send(0, 6, -value), DONE);
                leave(k, -value);
            }
            due("messages", k.count(2), staying);
        }
    }

    private static void ranksOfSenders() {
        about("a message that comes in later is behind those of equal rank");
        PriorityKernel k = with(1, 9, 8);
        for (int value = 0; value < 4; value++) {
            k.send(0, value < 2 ? 5 : 4, value);
        }
        due("1 waits with rank 4", k.send(0, 4, 10), BLOCKED);
        due("2 waits with rank 5", k.send(0, 5, 20), BLOCKED);
        runs(k, 0);
        leave(k, 0);
        due("1 waits again", k.send(0, 4, 11), BLOCKED);
        leave(k, 1);
        k.priority(1, 1);
        leave(k, 2);
        k.priority(2, 1);
        leave(k, 20, 3, 10, 11);
    }

    private static PriorityKernel sleeperOwning(int base, int... mutexes) {
        PriorityKernel k = with(base);
        for (int m : mutexes) {
            k.lock(m);
        }
        k.sleep(1000);
        return k;
    }

    private static void plainMutexInheritsNothing() {
        about("MUTEX 0 is plain");
        PriorityKernel k = sleeperOwning(2, 0);
        k.spawn(31, false);
        due("lock", k.lock(0), BLOCKED);
        told(k, 0, EFFECTIVE, 2);
    }

    private static void ceilingMutex() {
        about("MUTEX 3 has the CEILING");
        PriorityKernel k = sleeperOwning(2, 3);
        told(k, 0, EFFECTIVE, 20);
        k.spawn(20, false);
        due("lock", k.lock(3), BLOCKED);
        due("a waiter is raised above it", k.priority(1, 31), DONE);
        told(k, 0, EFFECTIVE, 20);
        told(k, 0, BASE, 2);
        due("the BASE is at the CEILING", k.priority(0, 20), DONE);
        told(k, 0, EFFECTIVE, 20);
        PriorityKernel given = with(20);
        given.lock(3);
        given.spawn(21, false);
        given.priority(1, 5);
        given.sleep(1);
        due("1 waits", given.lock(3), BLOCKED);
        told(given, 1, EFFECTIVE, 5);
        given.tick(1);
        given.unlock(3);
        told(given, 1, EFFECTIVE, 20);
    }

    private static void inheritingMutexes() {
        about("MUTEXES 1 and 2 are inheriting");
        for (int m = 1; m <= 2; m++) {
            PriorityKernel k = sleeperOwning(2, m);
            k.spawn(31, false);
            due("lock", k.lock(m), BLOCKED);
            told(k, 0, EFFECTIVE, 31);
            told(k, 1, EFFECTIVE, 31);
            k.priority(1, 3);
            told(k, 0, EFFECTIVE, 3);
            k.priority(1, 1);
            told(k, 0, EFFECTIVE, 2);
            k.priority(0, 1);
            told(k, 0, EFFECTIVE, 1);
        }
    }

    private static void inheritedEqualIsNoChange() {
        about("not below: an equal one changes nothing");
        PriorityKernel k = sleeperOwning(5, 1);
        k.spawn(5, false);
        k.lock(1);
        told(k, 0, EFFECTIVE, 5);
        told(k, 1, EFFECTIVE, 5);
    }

    private static void greatestOfSeveralWaiters() {
        about("the EFFECTIVE priority of each thread that is BLOCKED on mutex 1 or 2 that it owns");
        int[][] waits = {{7, 1}, {9, 1}, {8, 2}, {11, 2}, {10, 0}};
        int[] due = {7, 9, 9, 11, 11};
        PriorityKernel k = sleeperOwning(2, 0, 1, 2);
        for (int i = 0; i < waits.length; i++) {
            k.spawn(waits[i][0], false);
            due("lock", k.lock(waits[i][1]), BLOCKED);
            told(k, 0, EFFECTIVE, due[i]);
        }
    }

    private static void priorityLostWithTheMutex() {
        about("that it owns");
        PriorityKernel k = sleeperOwning(2, 1, 2, 3);
        k.spawn(25, false);
        k.lock(1);
        k.spawn(23, false);
        k.lock(2);
        for (int i = 0; i < 10; i++) {
            k.tick(100);
        }
        told(k, 0, EFFECTIVE, 25);
        k.unlock(1);
        told(k, 0, EFFECTIVE, 23);
        due("1 has it", k.owner(1), 1);
        k.sleep(10);
        k.unlock(2);
        told(k, 0, EFFECTIVE, 20);
        k.sleep(10);
        k.unlock(3);
        told(k, 0, EFFECTIVE, 2);
    }

    private static void newOwnerInherits() {
        about("a new owner has what the other waiters bring");
        PriorityKernel k = sleeperOwning(2, 1);
        for (int base : new int[] {9, 8, 7}) {
            k.spawn(base, false);
            k.lock(1);
        }
        for (int i = 0; i < 10; i++) {
            k.tick(100);
        }
        k.unlock(1);
        due("the owner", k.owner(1), 1);
        k.priority(1, 3);
        told(k, 1, EFFECTIVE, 8);
        told(k, 0, EFFECTIVE, 2);
        k.unlock(1);
        due("the owner", k.owner(1), 2);
        told(k, 1, EFFECTIVE, 3);
        k.priority(2, 1);
        told(k, 2, EFFECTIVE, 7);
    }

    private static void chains() {
        about("EFFECTIVE through threads that wait for one another");
        PriorityKernel k = with(2);
        k.lock(1);
        k.spawn(3, false);
        k.lock(2);
        due("1 waits for 0", k.lock(1), BLOCKED);
        for (int base = 10; base <= 15; base++) {
            int number = k.spawn(base, false);
            due("it waits for 1", k.lock(2), BLOCKED);
            told(k, 0, EFFECTIVE, base);
            told(k, 1, EFFECTIVE, base);
            told(k, number, EFFECTIVE, base);
        }
        told(k, 2, EFFECTIVE, 10);
        runs(k, 0);
        for (int t = 7; t >= 2; t--) {
            k.priority(t, 1);
            told(k, 0, EFFECTIVE, Math.max(3, t == 2 ? 3 : 7 + t));
            told(k, 1, EFFECTIVE, Math.max(3, t == 2 ? 3 : 7 + t));
        }
        k.priority(1, 1);
        told(k, 0, EFFECTIVE, 2);
        told(k, 1, EFFECTIVE, 1);
    }

    private static void chainIsCutByAPlainMutex() {
        about("a thread that waits for mutex 0 or 3 brings nothing");
        for (int m : new int[] {0, 3}) {
            PriorityKernel k = sleeperOwning(2, m);
            k.spawn(3, false);
            k.lock(1);
            due("1 waits for 0", k.lock(m), BLOCKED);
            k.spawn(15, false);
            due("2 waits for 1", k.lock(1), BLOCKED);
            told(k, 1, EFFECTIVE, 15);
            told(k, 0, EFFECTIVE, m == 0 ? 2 : 20);
        }
    }

    private static void chainIsCutByOtherWaits() {
        about("a thread that waits for something else brings nothing");
        PriorityKernel k = with(2);
        k.lock(1);
        k.spawn(9, false);
        due("join", k.join(0), BLOCKED);
        told(k, 0, EFFECTIVE, 2);
        k.spawn(8, false);
        due("down", k.down(0, 0), BLOCKED);
        k.spawn(7, false);
        due("receive", k.receive(1), BLOCKED);
        k.spawn(6, false);
        k.lock(2);
        due("await", k.await(1, 2, 0), BLOCKED);
        told(k, 0, EFFECTIVE, 2);
        runs(k, 0);
    }

    private static void ceilingIsPassedOn() {
        about("an owner of mutex 3 that waits for mutex 1 brings the CEILING");
        PriorityKernel k = with(2);
        k.lock(1);
        k.spawn(3, false);
        k.lock(3);
        due("1 waits for 0", k.lock(1), BLOCKED);
        told(k, 1, EFFECTIVE, 20);
        told(k, 0, EFFECTIVE, 20);
        told(k, 0, BASE, 2);
        k.unlock(1);
        told(k, 0, EFFECTIVE, 2);
    }

    /** 0 owns mutex 1 and wants 2, 1 owns mutex 2 and wants 1. */
    private static PriorityKernel ring(int base0, int base1) {
        PriorityKernel k = with(2);
        k.lock(1);
        k.spawn(3, false);
        k.lock(2);
        due("1 waits for 0", k.lock(1), BLOCKED);
        due("0 waits for 1", k.lock(2), BLOCKED);
        k.priority(0, base0);
        k.priority(1, base1);
        return k;
    }

    private static void rings() {
        about("EFFECTIVE in a ring of threads");
        for (int[] bases : new int[][] {{2, 3}, {3, 2}, {1, 31}, {31, 1}, {4, 4}, {1, 1}}) {
            PriorityKernel k = ring(bases[0], bases[1]);
            int greatest = Math.max(bases[0], bases[1]);
            runs(k, -1);
            told(k, 0, EFFECTIVE, greatest);
            told(k, 1, EFFECTIVE, greatest);
            told(k, 0, BASE, bases[0]);
            told(k, 1, BASE, bases[1]);
        }
        PriorityKernel k = ring(2, 3);
        for (int base = 10; base <= 15; base++) {
            k.spawn(base, false);
            due("it waits behind the ring", k.lock(1 + base % 2), BLOCKED);
            told(k, 0, EFFECTIVE, base);
            told(k, 1, EFFECTIVE, base);
        }
        told(k, 2, EFFECTIVE, 10);
    }

    private static void ringWithTheCeiling() {
        about("EFFECTIVE in a ring with the CEILING");
        PriorityKernel k = with(2);
        k.lock(1);
        k.lock(3);
        k.sleep(1);
        k.spawn(3, false);
        k.lock(2);
        due("1 waits for 0", k.lock(1), BLOCKED);
        told(k, 1, EFFECTIVE, 3);
        k.tick(1);
        due("0 waits for 1", k.lock(2), BLOCKED);
        told(k, 0, EFFECTIVE, 20);
        told(k, 1, EFFECTIVE, 20);
        k.priority(1, 22);
        told(k, 0, EFFECTIVE, 22);
        k.priority(1, 1);
        told(k, 0, EFFECTIVE, 20);
        told(k, 1, EFFECTIVE, 20);
    }

    private static void ringDoesNotHoldItselfUp() {
        about("EFFECTIVE priorities are the least numbers");
        PriorityKernel k = ring(31, 30);
        told(k, 1, EFFECTIVE, 31);
        k.priority(0, 1);
        told(k, 0, EFFECTIVE, 30);
        told(k, 1, EFFECTIVE, 30);
        k.priority(1, 1);
        told(k, 0, EFFECTIVE, 1);
        told(k, 1, EFFECTIVE, 1);
        k.spawn(9, false);
        k.lock(1);
        told(k, 0, EFFECTIVE, 9);
        told(k, 1, EFFECTIVE, 9);
        k.priority(2, 1);
        told(k, 0, EFFECTIVE, 1);
        told(k, 1, EFFECTIVE, 1);
    }

    /** 0, woken first, waits for the mutex of 1, which is raised by that and woken before 2. */
    private static void workedOutAfterEachSingleThing() {
        about("worked out anew after each single thing that happens in a call");
        PriorityKernel k = with(9);
        k.lock(1);
        due("0 awaits", k.await(0, 1, 0), BLOCKED);
        k.spawn(2, false);
        k.lock(1);
        k.lock(0);
        due("1 awaits", k.await(0, 0, 0), BLOCKED);
        k.spawn(5, false);
        k.lock(0);
        due("2 awaits", k.await(0, 0, 0), BLOCKED);
        due("all", k.signal(0, true), 3);
        told(k, 0, WAITS_ON, 11);
        due("1, raised by 0, was before 2", k.owner(0), 1);
        told(k, 2, WAITS_ON, 10);
        runs(k, 1);
    }

    private static void givingOwnsAndGetsReady() {
        about("GIVING: its FIRST WAITER, if there is one, owns it and gets READY");
        for (int m = 0; m < 4; m++) {
            PriorityKernel none = with(4);
            none.lock(m);
            due("unlock", none.unlock(m), DONE);
            due("without a waiter", none.owner(m), -1);
            PriorityKernel one = with(4);
            one.lock(m);
            one.sleep(1);
            one.spawn(3, false);
            due("1 waits", one.lock(m), BLOCKED);
            one.tick(1);
            due("unlock", one.unlock(m), DONE);
            due("with a waiter", one.owner(m), 1);
            told(one, 1, STATE, IS_READY);
            told(one, 1, WAITS_ON, 0);
        }
    }

    private static void takingIsOrGetsReady() {
        about("TAKING: it has no owner: the thread owns it, and is READY with the turn that it has");
        PriorityKernel k = new PriorityKernel(2, 20);
        k.spawn(4, true);
        k.spawn(4, true);
        k.tick(1);
        k.lock(2);
        runs(k, 0);
        due("its second tick", k.tick(1), 1);
        about("TAKING: else the thread is BLOCKED on it, without a deadline");
        k.pass();
        k.await(0, 2, 7);
        k.lock(2);
        told(k, 0, DEADLINE, 9);
        k.signal(0, false);
        told(k, 0, WAITS_ON, 12);
        told(k, 0, DEADLINE, NONE);
    }
}
