/** The edges that the promises name, from the side that is not refused (RefusedTest has the other), a sentence at a time. */
public final class EdgeTest extends Check {
    private EdgeTest() {
    }

    public static void main(String[] args) {
        sliceClamped();
        ceilingClamped();
        baseOfSpawn();
        noneFree();
        baseOfPriority();
        baseAndCeiling();
        lockAndCeiling();
        lockEachMutex();
        unlockAndLockAgain();
        awaitSpan();
        awaitWithoutDeadline();
        awaitDeadlineOrSignal();
        awaitWithEachMutex();
        signalNone();
        signalAll();
        signalAllOfEight();
        downAtZero();
        downSpan();
        postOrDeadline();
        postAtTheTop();
        sendToAFullQueue();
        sendRanks();
        sendToAReceiver();
        receiveFromAnEmptyQueue();
        receiveWithASender();
        sleepSpan();
        joinEachState();
        joinChain();
        exitWithAJoinerOrNone();
        exitAfterUnlock();
        tickSpan();
        tickToTheSlice();
        tickWithSliceOne();
        deadlinesAtOneTime();
        deadlinesOfEveryKind();
        runningIdle();
        tellNone();
        tellEachWait();
        ownerNone();
        countEdges();
        end();
    }

    private static void sliceClamped() {
        about("promise 1, slice clamped to 1 .. 20");
        for (int slice = -3; slice <= 24; slice++) {
            sliceIs(slice, Math.max(1, Math.min(20, slice)));
        }
        for (int far : outside(1, 20)) {
            sliceIs(far, far < 1 ? 1 : 20);
        }
    }

    private static void sliceIs(int given, int slice) {
        PriorityKernel k = new PriorityKernel(given, 20);
        k.spawn(4, true);
        k.spawn(4, true);
        for (int tick = 1; tick < slice; tick++) {
            due("slice " + given + ", tick " + tick, k.tick(1), 0);
        }
        due("slice " + given + ", its last tick", k.tick(1), 1);
    }

    private static void ceilingClamped() {
        about("promise 1, ceiling clamped to 1 .. 31");
        for (int ceiling = -3; ceiling <= 35; ceiling++) {
            ceilingIs(ceiling, Math.max(1, Math.min(31, ceiling)));
        }
        for (int far : outside(1, 31)) {
            ceilingIs(far, far < 1 ? 1 : 31);
        }
    }

    private static void ceilingIs(int given, int ceiling) {
        PriorityKernel at = new PriorityKernel(5, given);
        at.spawn(ceiling, false);
        due("ceiling " + given + ", a BASE at it", at.lock(3), DONE);
        PriorityKernel below = new PriorityKernel(5, given);
        below.spawn(1, false);
        due("ceiling " + given + ", the least BASE", below.lock(3), DONE);
        due("ceiling " + given, below.tell(0, EFFECTIVE), ceiling);
        if (ceiling < 31) {
            PriorityKernel above = new PriorityKernel(5, given);
            above.spawn(ceiling + 1, false);
            due("ceiling " + given + ", a BASE above it", above.lock(3), REFUSED);
        }
    }

    private static void baseOfSpawn() {
        about("promise 2, BASE 1 .. 31");
        for (int base = 1; base <= 31; base++) {
            PriorityKernel k = new PriorityKernel(5, 20);
            due("spawn " + base, k.spawn(base, base % 2 == 0), 0);
            told(k, 0, BASE, base);
            told(k, 0, EFFECTIVE, base);
            told(k, 0, STATE, IS_READY);
        }
    }

    private static void noneFree() {
        about("promise 2, the least FREE thread; None is FREE: REFUSED");
        PriorityKernel k = with(1, 9, 9, 9, 9, 9, 9, 9);
        due("a ninth", k.spawn(9, false), REFUSED);
        for (int t = 1; t <= 7; t++) {
            due("exit", k.exit(t), DONE);
            due("a ZOMBIE is not FREE", k.spawn(9, false), REFUSED);
        }
        for (int t : new int[] {6, 2, 4}) {
            due("join", k.join(t), DONE);
        }
        due("the least", k.spawn(1, false), 2);
        due("the next", k.spawn(1, false), 4);
        due("the last", k.spawn(1, false), 6);
        due("none is left", k.spawn(1, false), REFUSED);
        due("0 joins", k.join(6), BLOCKED);
        k.priority(6, 5);
        due("6 ends, and is FREE at once", k.exit(0), DONE);
        due("again", k.spawn(1, false), 6);
        told(k, 6, RESULT, 0);
        told(k, 6, BASE, 1);
    }

    private static void baseOfPriority() {
        about("promise 3, the thread 0 .. 7 gets this BASE 1 .. 31");
        PriorityKernel k = with(4, 4, 4, 4, 4, 4, 4, 4);
        for (int t : new int[] {0, 7, 3}) {
            for (int base = 1; base <= 31; base++) {
                due("priority of " + t, k.priority(t, base), DONE);
                told(k, t, BASE, base);
                told(k, t, EFFECTIVE, base);
            }
        }
        about("promise 3, if it is READY, a new STAMP");
        PriorityKernel same = with(4, 4, 4);
        due("the same BASE", same.priority(0, 4), DONE);
        runs(same, 1);
        due("one that is not RUNNING", same.priority(2, 4), DONE);
        due("the RUNNING one", same.priority(1, 4), DONE);
        runs(same, 0);
    }

    private static void baseAndCeiling() {
        about("promise 3, It owns mutex 3 and the BASE is above the CEILING");
        PriorityKernel k = with(5, 4);
        k.lock(3);
        due("at the CEILING", k.priority(0, 20), DONE);
        due("above it", k.priority(0, 21), REFUSED);
        told(k, 0, BASE, 20);
        due("another thread", k.priority(1, 21), DONE);
        due("which may not lock it", k.lock(3), REFUSED);
        due("nor unlock it", k.unlock(3), REFUSED);
        due("the owner again", k.priority(0, 31), REFUSED);
        due("1 falls to the CEILING", k.priority(1, 20), DONE);
        k.sleep(1);
        due("now it waits", k.lock(3), BLOCKED);
        due("a waiter owns nothing yet", k.priority(1, 21), DONE);
        due("and back", k.priority(1, 20), DONE);
        k.tick(1);
        due("unlock", k.unlock(3), DONE);
        due("no owner any more", k.priority(0, 21), DONE);
        due("the new owner", k.priority(1, 21), REFUSED);
        PriorityKernel others = with(5);
        for (int m = 0; m < 3; m++) {
            others.lock(m);
            due("owner of " + m, others.priority(0, 31), DONE);
            others.priority(0, 5);
        }
        PriorityKernel highest = new PriorityKernel(5, 31);
        highest.spawn(1, false);
        highest.lock(3);
        due("the greatest BASE and CEILING", highest.priority(0, 31), DONE);
        PriorityKernel lowest = new PriorityKernel(5, 1);
        lowest.spawn(1, false);
        lowest.lock(3);
        due("above the least CEILING", lowest.priority(0, 2), REFUSED);
        due("at the least CEILING", lowest.priority(0, 1), DONE);
    }

    private static void lockAndCeiling() {
        about("promise 5, m is 3 and its BASE is above the CEILING");
        for (int base : new int[] {1, 19, 20}) {
            due("lock 3 with " + base, with(base).lock(3), DONE);
        }
        for (int base : new int[] {21, 22, 31}) {
            due("lock 3 with " + base, with(base).lock(3), REFUSED);
        }
        for (int m = 0; m < 3; m++) {
            due("lock another with 31", with(31).lock(m), DONE);
        }
        PriorityKernel k = with(5);
        k.lock(1);
        k.spawn(25, false);
        due("1 waits for 0", k.lock(1), BLOCKED);
        told(k, 0, EFFECTIVE, 25);
        due("its EFFECTIVE priority is above, its BASE is not", k.lock(3), DONE);
        told(k, 0, EFFECTIVE, 25);
        due("owner", k.owner(3), 0);
    }

    private static void lockEachMutex() {
        about("promise 5, mutex m 0 .. 3; answers DONE or BLOCKED");
        for (int m = 0; m < 4; m++) {
            PriorityKernel k = with(4, 3);
            due("lock " + m, k.lock(m), DONE);
            due("owner", k.owner(m), 0);
            for (int other = 0; other < 4; other++) {
                due("owner of " + other, k.owner(other), other == m ? 0 : -1);
            }
            k.sleep(5);
            due("lock " + m + " of another", k.lock(m), BLOCKED);
            told(k, 1, WAITS_ON, 10 + m);
            told(k, 1, DEADLINE, NONE);
            due("owner", k.owner(m), 0);
        }
    }

    private static void unlockAndLockAgain() {
        about("promise 6, It does not own it: REFUSED");
        for (int m = 0; m < 4; m++) {
            PriorityKernel k = with(4);
            due("unlock", k.unlock(m), REFUSED);
            due("lock", k.lock(m), DONE);
            for (int other = 0; other < 4; other++) {
                if (other != m) {
                    due("unlock another", k.unlock(other), REFUSED);
                }
            }
            due("unlock", k.unlock(m), DONE);
            due("unlock again", k.unlock(m), REFUSED);
            due("lock again", k.lock(m), DONE);
        }
    }

    /** Ticks in parts of 100; answers what the last part answered. */
    private static int ticks(PriorityKernel k, int n) {
        int answer = k.running();
        for (int left = n; left > 0; left -= 100) {
            answer = k.tick(Math.min(left, 100));
        }
        return answer;
    }

    private static void awaitSpan() {
        about("promise 7, the deadline time + n for n 1 .. 1000");
        for (int n : new int[] {1, 2, 99, 100, 101, 999, 1000}) {
            for (int start : new int[] {0, 7}) {
                PriorityKernel k = with(4);
                ticks(k, start);
                k.lock(0);
                due("await", k.await(1, 0, n), BLOCKED);
                told(k, 0, DEADLINE, start + n);
                due("the tick before " + n, ticks(k, n - 1), -1);
                told(k, 0, STATE, IS_BLOCKED);
                due("the deadline", k.tick(1), 0);
                told(k, 0, RESULT, TIMED_OUT);
                told(k, 0, DEADLINE, NONE);
                due("it owns the mutex", k.owner(0), 0);
            }
        }
    }

    private static void awaitWithoutDeadline() {
        about("promise 7, without one for n = 0");
        PriorityKernel k = with(4);
        k.lock(0);
        due("await", k.await(0, 0, 0), BLOCKED);
        told(k, 0, DEADLINE, NONE);
        due("it waits", ticks(k, 3000), -1);
        told(k, 0, WAITS_ON, 20);
        due("signal", k.signal(0, false), 1);
        told(k, 0, RESULT, 0);
    }

    private static void awaitDeadlineOrSignal() {
        about("promise 7, when the deadline comes first");
        PriorityKernel k = with(4);
        k.lock(0);
        k.await(0, 0, 3);
        k.tick(2);
        due("woken a tick before", k.signal(0, false), 1);
        told(k, 0, RESULT, 0);
        told(k, 0, DEADLINE, NONE);
        k.await(0, 0, 2);
        due("the old deadline does not come", k.tick(1), -1);
        due("the new one does", k.tick(1), 0);
        told(k, 0, RESULT, TIMED_OUT);
        due("too late", k.signal(0, true), 0);
        told(k, 0, RESULT, TIMED_OUT);
        k.await(0, 0, 9);
        k.spawn(2, false);
        k.lock(0);
        due("woken, but the mutex is owned", k.signal(0, false), 1);
        told(k, 0, WAITS_ON, 10);
        told(k, 0, RESULT, 0);
        due("the deadline does not come any more", ticks(k, 50), 1);
        told(k, 0, WAITS_ON, 10);
        told(k, 0, RESULT, 0);
        k.unlock(0);
        told(k, 0, RESULT, 0);
        runs(k, 0);
    }

    private static void awaitWithEachMutex() {
        about("promise 7, owns m no more, which is then GIVEN; when it is woken, it TAKES m");
        for (int m = 0; m < 4; m++) {
            PriorityKernel k = with(4, 3);
            for (int other = 0; other < 4; other++) {
                k.lock(other);
            }
            k.sleep(1);
            due("1 waits", k.lock(m), BLOCKED);
            k.tick(1);
            due("await", k.await(0, m, 0), BLOCKED);
            due("given", k.owner(m), 1);
            told(k, 1, STATE, IS_READY);
            for (int other = 0; other < 4; other++) {
                due("owner of " + other, k.owner(other), other == m ? 1 : 0);
            }
            due("signal", k.signal(0, true), 1);
            told(k, 0, WAITS_ON, 10 + m);
            due("unlock", k.unlock(m), DONE);
            due("taken", k.owner(m), 0);
            runs(k, 0);
        }
    }

    private static void signalNone() {
        about("promise 8, none waits");
        PriorityKernel k = with(4);
        for (int c = 0; c < 2; c++) {
            due("signal", k.signal(c, false), 0);
            due("signal to all", k.signal(c, true), 0);
        }
        k.lock(0);
        due("signals are not kept", k.await(0, 0, 1), BLOCKED);
        due("the other condition", k.signal(1, true), 0);
        told(k, 0, WAITS_ON, 20);
    }

    private static void signalAll() {
        about("promise 8, all true: this is done again until none waits");
        for (int c = 0; c < 2; c++) {
            PriorityKernel k = with();
            for (int base = 5; base >= 1; base--) {
                k.spawn(base, false);
                k.lock(0);
                k.await(c, 0, 100);
            }
            due("one", k.signal(c, false), 1);
            due("the first", k.owner(0), 0);
            for (int t = 1; t < 5; t++) {
                told(k, t, WAITS_ON, 20 + c);
            }
            due("all", k.signal(c, true), 4);
            for (int t = 1; t < 5; t++) {
                told(k, t, WAITS_ON, 10);
            }
            due("none", k.signal(c, true), 0);
        }
    }

    private static void signalAllOfEight() {
        about("promise 8, not only for a thread: all of eight, the kernel being IDLE");
        PriorityKernel k = with();
        for (int t = 0; t < 8; t++) {
            k.spawn(4, false);
            k.lock(t % 3);
            k.await(1, t % 3, 0);
        }
        runs(k, -1);
        due("all", k.signal(1, true), 8);
        due("those that own their mutex", k.count(5), 3);
        runs(k, 0);
    }

    private static void downAtZero() {
        about("promise 9, the value is not 0: it falls by 1; else it is BLOCKED");
        for (int s = 0; s < 2; s++) {
            PriorityKernel k = with(4);
            due("post", k.post(s), DONE);
            due("at 1", k.down(s, 0), DONE);
            due("value", k.count(s), 0);
            runs(k, 0);
            due("at 0", k.down(s, 0), BLOCKED);
            told(k, 0, WAITS_ON, 30 + s);
            due("value", k.count(s), 0);
            due("the other's post", k.post(1 - s), DONE);
            told(k, 0, WAITS_ON, 30 + s);
            due("post", k.post(s), DONE);
            due("value", k.count(s), 0);
            runs(k, 0);
        }
    }

    private static void downSpan() {
        about("promise 9, deadline as in await");
        for (int n : new int[] {1, 2, 100, 101, 999, 1000}) {
            PriorityKernel k = with(4);
            k.tick(3);
            due("down", k.down(1, n), BLOCKED);
            told(k, 0, DEADLINE, 3 + n);
            due("the tick before " + n, ticks(k, n - 1), -1);
            due("the deadline", k.tick(1), 0);
            told(k, 0, RESULT, TIMED_OUT);
            told(k, 0, DEADLINE, NONE);
            due("the value stays", k.count(1), 0);
            k.post(1);
            due("with a value there is no deadline", k.down(1, n), DONE);
            told(k, 0, DEADLINE, NONE);
            told(k, 0, RESULT, 0);
        }
        PriorityKernel k = with(4);
        due("n = 0", k.down(0, 0), BLOCKED);
        told(k, 0, DEADLINE, NONE);
        due("it waits", ticks(k, 3000), -1);
    }

    private static void postOrDeadline() {
        about("promise 10, RESULT 0");
        PriorityKernel k = with(4);
        k.down(0, 5);
        k.tick(4);
        due("post, a tick before the deadline", k.post(0), DONE);
        told(k, 0, RESULT, 0);
        k.down(0, 5);
        due("the old deadline does not come", k.tick(4), -1);
        due("the new one does", k.tick(1), 0);
        due("post, too late for it", k.post(0), DONE);
        told(k, 0, RESULT, TIMED_OUT);
        due("value", k.count(0), 1);
    }

    private static void postAtTheTop() {
        about("promise 10, at 99: REFUSED");
        PriorityKernel k = with(4);
        for (int value = 1; value <= 99; value++) {
            due("post", k.post(1), DONE);
            due("value", k.count(1), value);
        }
        for (int again = 0; again < 3; again++) {
            due("at 99", k.post(1), REFUSED);
            due("value", k.count(1), 99);
        }
        due("the other", k.post(0), DONE);
        due("down", k.down(1, 0), DONE);
        due("at 98", k.post(1), DONE);
        due("at 99", k.post(1), REFUSED);
    }

    private static void sendToAFullQueue() {
        about("promise 11, less than 4 messages; else it is BLOCKED on sending");
        for (int q = 0; q < 2; q++) {
            PriorityKernel k = with(4, 3, 2);
            for (int i = 0; i < 4; i++) {
                due("send", k.send(q, 0, i), DONE);
            }
            k.down(0, 1);
            k.tick(1);
            told(k, 0, RESULT, TIMED_OUT);
            due("the fifth", k.send(q, 0, 4), BLOCKED);
            told(k, 0, WAITS_ON, 40 + q);
            told(k, 0, DEADLINE, NONE);
            told(k, 0, RESULT, TIMED_OUT);
            due("the other queue has room", k.send(1 - q, 0, 9), DONE);
            due("a second sender", k.send(q, 0, 5), BLOCKED);
            due("messages", k.count(2 + q), 4);
            due("receive", k.receive(q), DONE);
            told(k, 0, RESULT, 0);
            told(k, 0, STATE, IS_READY);
            told(k, 1, STATE, IS_BLOCKED);
            due("messages", k.count(2 + q), 4);
        }
    }

    private static void sendRanks() {
        about("promise 11, rank 0 .. 9");
        for (int rank = 0; rank <= 9; rank++) {
            PriorityKernel k = with(4);
            due("send", k.send(0, rank, LOWEST + rank), DONE);
            due("messages", k.count(2), 1);
            due("receive", k.receive(0), DONE);
            told(k, 0, RESULT, LOWEST + rank);
        }
        for (int value : new int[] {LOWEST, -1, 0, HIGHEST}) {
            PriorityKernel k = with(4);
            k.receive(1);
            k.spawn(3, false);
            due("any value", k.send(1, 0, value), DONE);
            told(k, 0, RESULT, value);
            told(k, 1, RESULT, 0);
        }
    }

    private static void sendToAReceiver() {
        about("promise 11, if a thread is BLOCKED on receiving from it, the message is not put into the queue");
        PriorityKernel k = with(9, 8, 1);
        due("receive", k.receive(0), BLOCKED);
        due("receive", k.receive(0), BLOCKED);
        due("the other queue", k.send(1, 5, 3), DONE);
        due("is put in", k.count(3), 1);
        told(k, 0, WAITS_ON, 50);
        due("send", k.send(0, 5, 7), DONE);
        due("is not put in", k.count(2), 0);
        told(k, 0, RESULT, 7);
        told(k, 1, STATE, IS_BLOCKED);
        k.priority(0, 1);
        k.priority(2, 2);
        due("send", k.send(0, 5, 8), DONE);
        due("is not put in", k.count(2), 0);
        told(k, 1, RESULT, 8);
        k.priority(1, 1);
        due("send", k.send(0, 5, 9), DONE);
        due("is put in", k.count(2), 1);
    }

    private static void receiveFromAnEmptyQueue() {
        about("promise 12, a message; else it is BLOCKED on receiving");
        for (int q = 0; q < 2; q++) {
            PriorityKernel k = with(4, 3);
            k.send(1 - q, 0, 5);
            k.send(q, 0, 6);
            due("the only one", k.receive(q), DONE);
            told(k, 0, RESULT, 6);
            due("empty", k.count(2 + q), 0);
            due("receive", k.receive(q), BLOCKED);
            told(k, 0, WAITS_ON, 50 + q);
            told(k, 0, DEADLINE, NONE);
            told(k, 0, RESULT, 6);
            due("send", k.send(q, 9, 7), DONE);
            told(k, 0, RESULT, 7);
            told(k, 0, WAITS_ON, 0);
            due("the other queue", k.count(3 - q), 1);
        }
    }

    private static void receiveWithASender() {
        about("promise 12, then, if a thread is BLOCKED on sending to q");
        PriorityKernel k = with(9, 1);
        for (int i = 0; i < 4; i++) {
            k.send(0, 1, i);
            k.send(1, 1, i);
        }
        due("0 waits with a greater rank", k.send(0, 9, 50), BLOCKED);
        due("the other queue", k.receive(1), DONE);
        due("has room now", k.count(3), 3);
        told(k, 0, WAITS_ON, 40);
        due("receive", k.receive(0), DONE);
        told(k, 1, RESULT, 0);
        told(k, 0, STATE, IS_READY);
        runs(k, 0);
        due("the sender receives", k.receive(0), DONE);
        told(k, 0, RESULT, 50);
        due("none is BLOCKED", k.count(2), 3);
    }

    private static void sleepSpan() {
        about("promise 13, the deadline time + n, n 1 .. 1000");
        for (int n : new int[] {1, 2, 100, 101, 999, 1000}) {
            PriorityKernel k = with(4);
            k.tick(3);
            due("sleep", k.sleep(n), BLOCKED);
            told(k, 0, DEADLINE, 3 + n);
            due("the tick before " + n, ticks(k, n - 1), -1);
            told(k, 0, WAITS_ON, 60);
            due("the deadline", k.tick(1), 0);
            told(k, 0, RESULT, 0);
            told(k, 0, DEADLINE, NONE);
        }
    }

    private static void joinEachState() {
        about("promise 14, a ZOMBIE: DONE; FREE or R itself: REFUSED; else BLOCKED");
        PriorityKernel k = with(1, 9, 8, 7, 2);
        k.exit(LOWEST);
        k.sleep(1000);
        k.lock(0);
        k.await(0, 0, 0);
        k.priority(4, 1);
        due("R itself", k.join(0), REFUSED);
        due("FREE", k.join(5), REFUSED);
        due("FREE", k.join(7), REFUSED);
        due("a ZOMBIE", k.join(1), DONE);
        told(k, 0, RESULT, LOWEST);
        told(k, 1, STATE, IS_FREE);
        due("no ZOMBIE any more", k.join(1), REFUSED);
        due("a sleeper", k.join(2), BLOCKED);
        told(k, 0, WAITS_ON, 72);
        due("the same", k.join(2), REFUSED);
        due("one that awaits", k.join(3), BLOCKED);
        told(k, 4, WAITS_ON, 73);
        told(k, 4, DEADLINE, NONE);
    }

    private static void joinChain() {
        about("promise 14, some thread is BLOCKED on joining it");
        PriorityKernel k = with(8, 7, 6, 5, 4, 3, 2, 1);
        for (int t = 0; t < 7; t++) {
            due("join the next", k.join(t + 1), BLOCKED);
        }
        for (int t = 1; t < 7; t++) {
            due("one that is joined", k.join(t), REFUSED);
        }
        for (int t = 7; t > 0; t--) {
            runs(k, t);
            due("exit", k.exit(10 * t), DONE);
            told(k, t, STATE, IS_FREE);
            told(k, t - 1, RESULT, 10 * t);
        }
        runs(k, 0);
        PriorityKernel last = with(8, 1);
        due("the last thread of all", last.join(1), BLOCKED);
        due("joins the first", last.join(0), BLOCKED);
        runs(last, -1);
    }

    private static void exitWithAJoinerOrNone() {
        about("promise 15, a thread BLOCKED on joining it; if there is none, R is a ZOMBIE");
        for (int value : new int[] {LOWEST, -1, 0, 1, 2, HIGHEST}) {
            PriorityKernel none = with(4);
            due("exit", none.exit(value), DONE);
            told(none, 0, STATE, IS_ZOMBIE);
            told(none, 0, RESULT, value);
            due("ready", none.count(5), 0);
            PriorityKernel joined = with(4, 3, 2);
            joined.join(2);
            due("one that nobody joins", joined.exit(5), DONE);
            told(joined, 1, STATE, IS_ZOMBIE);
            told(joined, 0, STATE, IS_BLOCKED);
            due("one that is joined", joined.exit(value), DONE);
            told(joined, 2, STATE, IS_FREE);
            told(joined, 2, RESULT, NONE);
            told(joined, 0, STATE, IS_READY);
            told(joined, 0, RESULT, value);
            told(joined, 0, WAITS_ON, 0);
        }
    }

    private static void exitAfterUnlock() {
        about("promise 15, It owns a mutex: REFUSED");
        for (int m = 0; m < 4; m++) {
            PriorityKernel k = with(4, 3);
            k.lock(m);
            due("exit", k.exit(1), REFUSED);
            told(k, 0, STATE, IS_READY);
            told(k, 0, RESULT, 0);
            k.unlock(m);
            due("exit", k.exit(1), DONE);
            told(k, 0, STATE, IS_ZOMBIE);
        }
        PriorityKernel all = with(4);
        for (int m = 0; m < 4; m++) {
            all.lock(m);
        }
        for (int m = 0; m < 4; m++) {
            due("exit", all.exit(1), REFUSED);
            all.unlock(m);
        }
        due("exit", all.exit(1), DONE);
        about("promise 15, another's mutex is no matter");
        PriorityKernel other = with(4, 3);
        other.lock(0);
        other.sleep(5);
        due("exit", other.exit(1), DONE);
    }

    private static void tickSpan() {
        about("promise 16, n (1 .. 100) times");
        PriorityKernel k = with(4);
        int time = 0;
        for (int n = 1; n <= 100; n++) {
            due("tick " + n, k.tick(n), 0);
            time += n;
            due("time", k.count(4), time);
        }
        about("promise 16, -1 if IDLE");
        k.sleep(100);
        due("the tick before", k.tick(99), -1);
        due("the deadline", k.tick(1), 0);
        due("nobody at all", new PriorityKernel(1, 1).tick(100), -1);
    }

    private static void tickToTheSlice() {
        about("promise 16, if it is sliced and USED is SLICE, a new STAMP and 0 USED");
        for (int slice : new int[] {2, 3, 20}) {
            PriorityKernel k = new PriorityKernel(slice, 20);
            k.spawn(4, true);
            k.spawn(4, true);
            k.spawn(4, true);
            for (int turn = 0; turn < 7; turn++) {
                runs(k, turn % 3);
                due("the tick before", k.tick(slice - 1), turn % 3);
                due("the last one", k.tick(1), (turn + 1) % 3);
            }
            due("three slices in one call", k.tick(3 * slice), 1);
        }
        PriorityKernel whole = new PriorityKernel(5, 20);
        whole.spawn(4, false);
        whole.spawn(4, true);
        due("not sliced", whole.tick(100), 0);
        PriorityKernel alone = new PriorityKernel(3, 20);
        alone.spawn(4, true);
        due("a slice and two ticks", alone.tick(5), 0);
        alone.spawn(4, true);
        due("the third", alone.tick(1), 1);
        PriorityKernel pushed = new PriorityKernel(3, 20);
        pushed.spawn(4, true);
        pushed.spawn(4, true);
        pushed.tick(2);
        pushed.spawn(9, false);
        due("ticks of another do not count", pushed.tick(10), 2);
        pushed.exit(0);
        runs(pushed, 0);
        due("its third", pushed.tick(1), 1);
    }

    private static void tickWithSliceOne() {
        about("promise 16, SLICE 1");
        PriorityKernel k = new PriorityKernel(1, 20);
        for (int t = 0; t < 8; t++) {
            k.spawn(4, t != 3);
        }
        for (int tick = 0; tick < 3; tick++) {
            runs(k, tick);
            k.tick(1);
        }
        due("one that is not sliced", k.tick(50), 3);
        k.pass();
        due("the others", k.tick(7), 3);
    }

    private static void deadlinesAtOneTime() {
        about("promise 16, each BLOCKED thread whose deadline is the time, the least number first");
        PriorityKernel k = with();
        for (int t = 0; t < 8; t++) {
            k.spawn(4, false);
        }
        // The greatest number falls asleep first, and has the greatest priority at that time.
        for (int t = 7; t >= 0; t--) {
            k.priority(t, 9);
            due("sleep", k.sleep(8), BLOCKED);
            k.priority(t, 4);
        }
        due("the deadline", k.tick(8), 0);
        for (int t = 0; t < 8; t++) {
            runs(k, t);
            k.pass();
        }
        PriorityKernel mutex = with(1, 2, 3, 4, 5, 6, 7, 8);
        for (int t = 7; t >= 0; t--) {
            mutex.lock(0);
            due("await", mutex.await(t % 2, 0, 10), BLOCKED);
        }
        due("the deadline", mutex.tick(10), 0);
        due("the least number takes the mutex", mutex.owner(0), 0);
        for (int t = 1; t < 8; t++) {
            told(mutex, t, WAITS_ON, 10);
            told(mutex, t, RESULT, TIMED_OUT);
        }
        mutex.unlock(0);
        due("then the FIRST WAITER", mutex.owner(0), 7);
    }

    private static void deadlinesOfEveryKind() {
        about("promise 16, its deadline comes (a sleep: it gets READY)");
        PriorityKernel k = with(4, 4, 4, 4);
        k.lock(0);
        k.await(0, 0, 5);
        k.down(0, 5);
        k.sleep(5);
        k.sleep(6);
        runs(k, -1);
        due("the tick before", k.tick(4), -1);
        due("the deadline", k.tick(1), 0);
        due("ready", k.count(5), 3);
        told(k, 0, RESULT, TIMED_OUT);
        told(k, 1, RESULT, TIMED_OUT);
        told(k, 2, RESULT, 0);
        told(k, 3, STATE, IS_BLOCKED);
        k.pass();
        runs(k, 1);
        k.pass();
        runs(k, 2);
        k.tick(1);
        told(k, 3, STATE, IS_READY);
    }

    private static void runningIdle() {
        about("promise 17, -1 if IDLE");
        PriorityKernel k = with();
        runs(k, -1);
        k.spawn(1, false);
        runs(k, 0);
        k.sleep(1);
        runs(k, -1);
        k.tick(1);
        runs(k, 0);
        k.exit(0);
        runs(k, -1);
        PriorityKernel all = with(8, 7, 6, 5, 4, 3, 2, 1);
        for (int t = 0; t < 8; t++) {
            runs(all, t);
            all.down(0, 0);
        }
        runs(all, -1);
        all.post(0);
        runs(all, 0);
    }

    private static void tellNone() {
        about("promise 18, NONE for all else");
        PriorityKernel k = Scenes.busy();
        for (int wrong : outside(0, 7)) {
            for (int what = -1; what <= 6; what++) {
                told(k, wrong, what, NONE);
            }
        }
        for (int wrong : outside(0, 5)) {
            told(k, 0, wrong, NONE);
            told(k, 2, wrong, NONE);
            told(k, 7, wrong, NONE);
        }
        PriorityKernel free = Scenes.busy();
        told(free, 7, STATE, IS_FREE);
        for (int what = 1; what <= 5; what++) {
            told(free, 7, what, NONE);
        }
        free.join(0);
        told(free, 0, STATE, IS_FREE);
        for (int what = 1; what <= 5; what++) {
            told(free, 0, what, NONE);
        }
    }

    private static void tellEachWait() {
        about("promise 18, what it is BLOCKED on, else 0; its deadline");
        PriorityKernel k = Scenes.joined(6);
        int[] things = {0, 20, 0, 30, 41, 50, 0, 76};
        long[] deadlines = {NONE, 50, NONE, 60, NONE, NONE, NONE, NONE};
        for (int t = 0; t < 8; t++) {
            told(k, t, WAITS_ON, things[t]);
            told(k, t, DEADLINE, deadlines[t]);
        }
        k.sleep(7);
        told(k, 2, WAITS_ON, 60);
        told(k, 2, DEADLINE, 8);
        about("promise 18, RESULT, for a ZOMBIE its exit value");
        told(k, 0, RESULT, 41);
    }

    private static void ownerNone() {
        about("promise 19, -1 if it has none; REFUSED for another m");
        PriorityKernel k = with(4, 4, 4, 4, 4, 4, 4, 4);
        for (int t = 0; t < 7; t++) {
            k.pass();
        }
        for (int m = 0; m < 4; m++) {
            due("none", k.owner(m), -1);
            due("lock", k.lock(m), DONE);
            due("the greatest number", k.owner(m), 7);
        }
        for (int wrong : outside(0, 3)) {
            due("owner " + wrong, k.owner(wrong), REFUSED);
        }
        for (int m = 3; m >= 0; m--) {
            k.unlock(m);
            due("none", k.owner(m), -1);
        }
    }

    private static void countEdges() {
        about("promise 20, 0 .. 5, else REFUSED");
        PriorityKernel k = Scenes.full();
        int[] counts = {0, 99, 0, 4, 1, 2};
        for (int what = 0; what < 6; what++) {
            due("count " + what, k.count(what), counts[what]);
        }
        for (int wrong : outside(0, 5)) {
            due("count " + wrong, k.count(wrong), REFUSED);
        }
        PriorityKernel all = with(1, 1, 1, 1, 1, 1, 1, 1);
        for (int ready = 8; ready > 0; ready--) {
            due("ready", all.count(5), ready);
            due("not ready", ready % 2 == 0 ? all.exit(0) - DONE : all.sleep(9) - BLOCKED, 0);
        }
        due("none ready", all.count(5), 0);
        due("four wake", all.tick(9), 1);
        due("ready", all.count(5), 4);
    }
}
