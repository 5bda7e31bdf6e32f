/** "An object is used for at most 512 calls": each run goes on to the last few of them, which are as due as the first. */
public final class LifeTest extends Check {
    private static final int CALLS = 512;

    private LifeTest() {
    }

    public static void main(String[] args) {
        time();
        lateDeadlines();
        stamps();
        waits();
        threads();
        messages();
        mutexes();
        looksCountToo();
        end();
    }

    private static void time() {
        about("512 calls, the time");
        PriorityKernel k = new PriorityKernel(3, 20);
        k.spawn(4, true);
        k.spawn(4, true);
        int ticks = 0;
        for (int call = 3; call < CALLS; call++) {
            ticks += 100;
            due("tick, call " + call, k.tick(100), ticks / 3 % 2);
        }
        due("time", k.count(4), ticks);
    }

    private static void lateDeadlines() {
        about("512 calls, a deadline");
        PriorityKernel k = with(4);
        for (int call = 2; call <= CALLS - 12; call++) {
            due("tick", k.tick(100), 0);
        }
        int time = 100 * (CALLS - 13);
        due("sleep", k.sleep(1000), BLOCKED);
        told(k, 0, DEADLINE, time + 1000);
        for (int tick = 1; tick <= 10; tick++) {
            due("tick", k.tick(100), tick == 10 ? 0 : -1);
        }
    }

    private static void stamps() {
        about("512 calls, STAMPS");
        PriorityKernel k = with(4, 4, 4);
        for (int call = 4; call < CALLS - 1; call += 2) {
            due("pass", k.pass(), DONE);
            runs(k, (call - 2) / 2 % 3);
        }
    }

    private static void waits() {
        about("512 calls, the one that is BLOCKED the longest");
        PriorityKernel k = with(4, 4, 4);
        k.down(0, 0);
        k.down(0, 0);
        k.down(0, 0);
        for (int call = 7; call < CALLS - 2; call += 3) {
            due("post", k.post(0), DONE);
            runs(k, (call - 7) / 3 % 3);
            due("down", k.down(0, 0), BLOCKED);
        }
    }

    private static void threads() {
        about("512 calls, threads that come and go");
        PriorityKernel k = with(1);
        for (int call = 2; call <= CALLS - 3; call += 4) {
            due("spawn", k.spawn(5, call % 8 < 4), 1);
            due("exit", k.exit(call), DONE);
            due("join", k.join(1), DONE);
            told(k, 0, RESULT, call);
        }
    }

    private static void messages() {
        about("512 calls, messages");
        PriorityKernel k = with(4);
        k.send(1, 5, -1);
        k.send(1, 5, 0);
        for (int call = 4; call <= CALLS - 2; call += 3) {
            due("send", k.send(1, 5, call / 3), DONE);
            due("receive", k.receive(1), DONE);
            told(k, 0, RESULT, call / 3 - 2);
        }
    }

    private static void mutexes() {
        about("512 calls, a mutex that is handed on");
        PriorityKernel k = with(4, 4);
        k.lock(2);
        k.pass();
        k.lock(2);
        for (int call = 6; call <= CALLS - 3; call += 4) {
            int owner = (call - 6) / 4 % 2;
            due("unlock", k.unlock(2), DONE);
            due("owner", k.owner(2), 1 - owner);
            due("lock", k.lock(2), BLOCKED);
            runs(k, 1 - owner);
        }
    }

    private static void looksCountToo() {
        about("512 calls, refused ones and looks among them");
        PriorityKernel k = with(4);
        for (int call = 2; call <= CALLS - 3; call += 4) {
            due("a refused call", k.lock(4), REFUSED);
            due("a look", k.count(5), 1);
            due("a refused call", k.tick(0), REFUSED);
            told(k, 0, STATE, IS_READY);
        }
        due("time", k.count(4), 0);
    }
}
