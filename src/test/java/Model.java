import java.util.ArrayList;
import java.util.Arrays;
import java.util.Comparator;
import java.util.HashSet;
import java.util.List;
import java.util.Set;

/**
 * The document once more, written apart from the program: no stamps, but lists in the order of events, and priorities
 * worked out by walking from a thread to those that wait for it.
 */
final class Model {
    private enum Kind { MUTEX, CONDITION, SEMAPHORE, SENDING, RECEIVING, SLEEP, JOIN }

    private record Message(int rank, int value) { }

    private static final class Wait {
        final Thread8 thread;
        final Kind kind;
        final int which;
        Long deadline;
        int mutex;
        boolean locking;
        Message message;

        Wait(Thread8 thread, Kind kind, int which) {
            this.thread = thread;
            this.kind = kind;
            this.which = which;
        }
    }

    private static final class Thread8 {
        final int number;
        int base;
        boolean sliced;
        int used;
        int result;

        Thread8(int number, int base, boolean sliced) {
            this.number = number;
            this.base = base;
            this.sliced = sliced;
        }
    }

    private final int slice;
    private final int ceiling;
    private final Thread8[] threads = new Thread8[8];
    /** Those READY, the least stamp first. */
    private final List<Thread8> ready = new ArrayList<>();
    /** Those BLOCKED, the longest first. */
    private final List<Wait> waits = new ArrayList<>();
    private final Thread8[] owners = new Thread8[4];
    private final int[] semaphores = new int[2];
    private final List<List<Message>> queues = List.of(new ArrayList<>(), new ArrayList<>());
    private long time = 0;

    Model(int slice, int ceiling) {
        this.slice = slice < 1 ? 1 : slice > 20 ? 20 : slice;
        this.ceiling = ceiling < 1 ? 1 : ceiling > 31 ? 31 : ceiling;
    }

    long spawn(int base, boolean sliced) {
        int number = Arrays.asList(threads).indexOf(null);
        if (out(base, 1, 31) || number < 0) {
            return -1;
        }
        threads[number] = new Thread8(number, base, sliced);
        ready.add(threads[number]);
        return number;
    }

    long priority(int thread, int base) {
        if (out(thread, 0, 7) || out(base, 1, 31) || threads[thread] == null) {
            return -1;
        }
        Thread8 t = threads[thread];
        boolean zombie = !ready.contains(t) && waitOf(t) == null;
        if (zombie || owners[3] == t && base > ceiling) {
            return -1;
        }
        t.base = base;
        if (ready.remove(t)) {
            ready.add(t);
        }
        return 0;
    }

    long pass() {
        Thread8 r = first();
        if (r == null) {
            return -1;
        }
        wake(r);
        return 0;
    }

    long lock(int m) {
        Thread8 r = first();
        if (out(m, 0, 3) || r == null || owners[m] == r || m == 3 && r.base > ceiling) {
            return -1;
        }
        if (owners[m] == null) {
            owners[m] = r;
            r.result = 0;
            return 0;
        }
        sleepOn(r, Kind.MUTEX, m).locking = true;
        return 1;
    }

    long unlock(int m) {
        Thread8 r = first();
        if (out(m, 0, 3) || r == null || owners[m] != r) {
            return -1;
        }
        handOver(m);
        return 0;
    }

    long await(int c, int m, int n) {
        Thread8 r = first();
        if (out(c, 0, 1) || out(m, 0, 3) || out(n, 0, 1000) || r == null || owners[m] != r) {
            return -1;
        }
        Wait wait = sleepOn(r, Kind.CONDITION, c);
        wait.mutex = m;
        wait.deadline = n == 0 ? null : Long.valueOf(time + n);
        handOver(m);
        return 1;
    }

    long signal(int c, boolean all) {
        if (out(c, 0, 1)) {
            return -1;
        }
        int woken = 0;
        for (Wait w = firstWait(Kind.CONDITION, c); w != null; w = firstWait(Kind.CONDITION, c)) {
            retake(w, 0);
            woken++;
            if (!all) {
                break;
            }
        }
        return woken;
    }

    long down(int s, int n) {
        Thread8 r = first();
        if (out(s, 0, 1) || out(n, 0, 1000) || r == null) {
            return -1;
        }
        if (semaphores[s] > 0) {
            semaphores[s]--;
            r.result = 0;
            return 0;
        }
        sleepOn(r, Kind.SEMAPHORE, s).deadline = n == 0 ? null : Long.valueOf(time + n);
        return 1;
    }

    long post(int s) {
        if (out(s, 0, 1)) {
            return -1;
        }
        Wait w = firstWait(Kind.SEMAPHORE, s);
        if (w != null) {
            w.thread.result = 0;
            wake(w.thread);
            return 0;
        }
        if (semaphores[s] == 99) {
            return -1;
        }
        semaphores[s]++;
        return 0;
    }

    long send(int q, int rank, int value) {
        Thread8 r = first();
        if (out(q, 0, 1) || out(rank, 0, 9) || r == null) {
            return -1;
        }
        Message message = new Message(rank, value);
        if (queues.get(q).size() >= 4) {
            sleepOn(r, Kind.SENDING, q).message = message;
            return 1;
        }
        r.result = 0;
        Wait receiver = firstWait(Kind.RECEIVING, q);
        if (receiver == null) {
            putIn(q, message);
        } else {
            receiver.thread.result = value;
            wake(receiver.thread);
        }
        return 0;
    }

    long receive(int q) {
        Thread8 r = first();
        if (out(q, 0, 1) || r == null) {
            return -1;
        }
        if (queues.get(q).isEmpty()) {
            sleepOn(r, Kind.RECEIVING, q);
            return 1;
        }
        r.result = queues.get(q).remove(0).value;
        Wait sender = firstWait(Kind.SENDING, q);
        if (sender != null) {
            putIn(q, sender.message);
            sender.thread.result = 0;
            wake(sender.thread);
        }
        return 0;
    }

    long sleep(int n) {
        Thread8 r = first();
        if (out(n, 1, 1000) || r == null) {
            return -1;
        }
        sleepOn(r, Kind.SLEEP, 0).deadline = time + n;
        return 1;
    }

    long join(int t) {
        Thread8 r = first();
        if (out(t, 0, 7) || r == null || threads[t] == null || threads[t] == r) {
            return -1;
        }
        if (state(t) == 3) {
            r.result = threads[t].result;
            threads[t] = null;
            return 0;
        }
        if (firstWait(Kind.JOIN, t) != null) {
            return -1;
        }
        sleepOn(r, Kind.JOIN, t);
        return 1;
    }

    long exit(int value) {
        Thread8 r = first();
        if (r == null || Arrays.asList(owners).contains(r)) {
            return -1;
        }
        ready.remove(r);
        r.result = value;
        Wait joiner = firstWait(Kind.JOIN, r.number);
        if (joiner != null) {
            joiner.thread.result = value;
            wake(joiner.thread);
            threads[r.number] = null;
        }
        return 0;
    }

    long tick(int n) {
        if (out(n, 1, 100)) {
            return -1;
        }
        for (int i = 0; i < n; i++) {
            Thread8 r = first();
            time++;
            if (r != null && ++r.used == slice && r.sliced) {
                wake(r);
            }
            List<Wait> over = new ArrayList<>(waits);
            over.removeIf(w -> w.deadline == null || w.deadline != time);
            over.sort(Comparator.comparingInt(w -> w.thread.number));
            over.forEach(this::timeOut);
        }
        return running();
    }

    long running() {
        Thread8 r = first();
        return r == null ? -1 : r.number;
    }

    long tell(int t, int what) {
        if (out(t, 0, 7) || out(what, 0, 5) || what != 0 && threads[t] == null) {
            return PriorityKernel.NONE;
        }
        Wait wait = waitOf(threads[t]);
        return switch (what) {
            case 0 -> state(t);
            case 1 -> threads[t].base;
            case 2 -> effective(threads[t]);
            case 3 -> threads[t].result;
            case 4 -> wait == null ? 0 : 10 * (wait.kind.ordinal() + 1) + wait.which;
            default -> wait == null || wait.deadline == null ? PriorityKernel.NONE : wait.deadline;
        };
    }

    long owner(int m) {
        return out(m, 0, 3) || owners[m] == null ? -1 : owners[m].number;
    }

    long count(int what) {
        return switch (what) {
            case 0, 1 -> semaphores[what];
            case 2, 3 -> queues.get(what - 2).size();
            case 4 -> time;
            case 5 -> ready.size();
            default -> -1;
        };
    }

    private static boolean out(int number, int least, int greatest) {
        return number < least || number > greatest;
    }

    private int state(int t) {
        Thread8 thread = threads[t];
        if (thread == null) {
            return 0;
        }
        return ready.contains(thread) ? 1 : waitOf(thread) != null ? 2 : 3;
    }

    private Wait waitOf(Thread8 t) {
        return waits.stream().filter(w -> w.thread == t).findFirst().orElse(null);
    }

    /** The greatest own priority among the thread and all that wait for it, straight or through others. */
    private int effective(Thread8 t) {
        Set<Thread8> behind = new HashSet<>();
        gather(t, behind);
        return behind.stream().mapToInt(b -> owners[3] == b ? Math.max(b.base, ceiling) : b.base).max().getAsInt();
    }

    private void gather(Thread8 t, Set<Thread8> behind) {
        if (!behind.add(t)) {
            return;
        }
        for (Wait w : waits) {
            if (w.kind == Kind.MUTEX && (w.which == 1 || w.which == 2) && owners[w.which] == t) {
                gather(w.thread, behind);
            }
        }
    }

    private Thread8 first() {
        Thread8 best = null;
        for (Thread8 t : ready) {
            best = best == null || effective(t) > effective(best) ? t : best;
        }
        return best;
    }

    private Wait firstWait(Kind kind, int which) {
        Wait best = null;
        for (Wait w : waits) {
            if (w.kind == kind && w.which == which) {
                best = best == null || effective(w.thread) > effective(best.thread) ? w : best;
            }
        }
        return best;
    }

    private Wait sleepOn(Thread8 t, Kind kind, int which) {
        ready.remove(t);
        waits.removeIf(w -> w.thread == t);
        Wait wait = new Wait(t, kind, which);
        waits.add(wait);
        return wait;
    }

    private void wake(Thread8 t) {
        waits.removeIf(w -> w.thread == t);
        ready.remove(t);
        ready.add(t);
        t.used = 0;
    }

    private void handOver(int m) {
        owners[m] = null;
        Wait next = firstWait(Kind.MUTEX, m);
        if (next == null) {
            return;
        }
        owners[m] = next.thread;
        if (next.locking) {
            next.thread.result = 0;
        }
        wake(next.thread);
    }

    private void retake(Wait w, int result) {
        w.thread.result = result;
        if (owners[w.mutex] == null) {
            owners[w.mutex] = w.thread;
            wake(w.thread);
        } else {
            sleepOn(w.thread, Kind.MUTEX, w.mutex);
        }
    }

    private void timeOut(Wait w) {
        if (w.kind == Kind.CONDITION) {
            retake(w, 2);
            return;
        }
        w.thread.result = w.kind == Kind.SLEEP ? 0 : 2;
        wake(w.thread);
    }

    private void putIn(int q, Message message) {
        queues.get(q).add(message);
        queues.get(q).sort(Comparator.comparingInt(m -> -m.rank));
    }
}
