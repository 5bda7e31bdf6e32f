/** Kernels in which nearly every call would change something if it were not refused. */
final class Scenes {
    private Scenes() {
    }

    static PriorityKernel fresh() {
        return new PriorityKernel(3, 20);
    }

    /**
     * 2 is RUNNING, owns mutex 1, has RESULT 42 and one tick USED, and 6 is READY, its equal; 0 is a ZOMBIE and 7 is FREE;
     * the others are BLOCKED: 1 on condition 0, 3 on semaphore 0, owning mutex 0, 4 on sending to queue 1, 5 on receiving
     * from queue 0. Semaphore 1 has the value 3.
     */
    static PriorityKernel busy() {
        PriorityKernel k = fresh();
        k.spawn(30, false);
        k.exit(41);
        k.spawn(30, false);
        k.exit(42);
        k.spawn(5, true);
        k.lock(1);
        k.join(1);
        k.spawn(30, false);
        k.lock(0);
        k.await(0, 0, 50);
        k.spawn(29, false);
        k.lock(0);
        k.down(0, 60);
        k.spawn(28, false);
        for (int rank : new int[] {1, 2, 0, 1, 1}) {
            k.send(1, rank, 100 + k.count(3));
        }
        k.spawn(27, false);
        k.receive(0);
        k.spawn(5, true);
        for (int value = 1; value <= 3; value++) {
            k.post(1);
        }
        k.tick(1);
        return k;
    }

    /** Busy, and 7 is BLOCKED on joining this thread, so that none is FREE. */
    static PriorityKernel joined(int thread) {
        PriorityKernel k = busy();
        k.spawn(26, false);
        k.join(thread);
        return k;
    }

    /** Busy, and 7 is BLOCKED on the mutex that 2 owns, without raising it. */
    static PriorityKernel wanted() {
        PriorityKernel k = busy();
        k.spawn(26, false);
        k.lock(1);
        k.priority(7, 4);
        return k;
    }

    /** Wanted, but 2 and 6 sleep, so that none is READY. */
    static PriorityKernel idle() {
        PriorityKernel k = wanted();
        k.sleep(30);
        k.sleep(31);
        return k;
    }

    /** Wanted, and 2 owns mutex 3 beside and has RESULT TIMED_OUT; 6 is its equal still. */
    static PriorityKernel ceiled() {
        PriorityKernel k = wanted();
        k.lock(3);
        k.down(0, 1);
        k.tick(1);
        k.priority(6, 20);
        k.tick(1);
        return k;
    }

    /** Wanted, and the BASE of 2 and 6 is above the CEILING. */
    static PriorityKernel aboveCeiling() {
        PriorityKernel k = wanted();
        k.priority(2, 21);
        k.priority(6, 21);
        return k;
    }

    /** Wanted, and semaphore 1 has its greatest value. */
    static PriorityKernel full() {
        PriorityKernel k = wanted();
        for (int value = 4; value <= 99; value++) {
            k.post(1);
        }
        return k;
    }
}
