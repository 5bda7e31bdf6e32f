import java.util.ArrayList;
import java.util.List;
import java.util.Random;

/** Runs of calls that bring to light what a kernel holds inside: turns, messages, waits, deadlines and results. */
final class Afterplay {
    private static final int DRAWN = 15;
    private static final int PARTS = 3;
    private static final int CALLS_OF_A_PART = 25;
    private static final int NO_WILD_NUMBERS = Integer.MAX_VALUE;
    private static final List<List<Call>> ALL = new ArrayList<>();

    static {
        ALL.add(timeGoesOn());
        ALL.add(messagesLeave(true));
        ALL.add(messagesLeave(false));
        ALL.add(waitsEnd());
        ALL.add(threadsEnd());
        ALL.add(awake(messagesLeave(false)));
        ALL.add(awake(waitsEnd()));
        for (int seed = 0; seed < DRAWN; seed++) {
            ALL.add(drawn(new Random(seed)));
        }
    }

    private Afterplay() {
    }

    static List<List<Call>> all() {
        return ALL;
    }

    /** In an IDLE kernel these calls would all be refused before a sleeper wakes; after 38 ticks that of the scenes has its turn. */
    private static List<Call> awake(List<Call> then) {
        List<Call> calls = new ArrayList<>();
        calls.add(Call.of(Call.Kind.TICK, 38));
        calls.addAll(then);
        return calls;
    }

    private static List<Call> timeGoesOn() {
        List<Call> calls = new ArrayList<>();
        for (int tick = 0; tick < 65; tick++) {
            calls.add(Call.of(Call.Kind.TICK, 1));
        }
        calls.addAll(Glance.calls());
        return calls;
    }

    /** A new thread above all receives, if there is to be one and one is FREE; then those that are there. */
    private static List<Call> messagesLeave(boolean toNewThread) {
        List<Call> calls = new ArrayList<>();
        if (toNewThread) {
            calls.add(Call.of(Call.Kind.SPAWN, 31));
        }
        for (int i = 0; i < 7; i++) {
            calls.add(Call.of(Call.Kind.RECEIVE, 1));
            results(calls);
        }
        calls.addAll(Glance.calls());
        return calls;
    }

    private static List<Call> waitsEnd() {
        List<Call> calls = new ArrayList<>();
        // The mutex that is wanted in the scenes is the first: both kernels would share what a refused unlock did.
        for (int m : new int[] {1, 0, 2, 3}) {
            calls.add(Call.of(Call.Kind.UNLOCK, m));
            results(calls);
        }
        for (Call.Kind kind : List.of(Call.Kind.SIGNAL, Call.Kind.POST, Call.Kind.UNLOCK, Call.Kind.POST, Call.Kind.SIGNAL)) {
            calls.add(Call.of(kind, 0));
            results(calls);
            calls.add(Call.of(Call.Kind.RUNNING));
        }
        calls.addAll(Glance.calls());
        return calls;
    }

    private static List<Call> threadsEnd() {
        List<Call> calls = new ArrayList<>();
        calls.add(Call.of(Call.Kind.PASS));
        calls.add(Call.of(Call.Kind.RUNNING));
        for (int i = 0; i < 4; i++) {
            for (int m = 0; m < 4; m++) {
                calls.add(Call.of(Call.Kind.UNLOCK, m));
            }
            calls.add(Call.of(Call.Kind.EXIT, 70 + i));
            results(calls);
        }
        calls.addAll(Glance.calls());
        return calls;
    }

    private static void results(List<Call> calls) {
        for (int t = 0; t < 8; t++) {
            calls.add(Call.of(Call.Kind.TELL, t, 3));
        }
    }

    private static List<Call> drawn(Random random) {
        List<Call> calls = new ArrayList<>(Glance.calls());
        for (int part = 0; part < PARTS; part++) {
            for (int i = 0; i < CALLS_OF_A_PART; i++) {
                Call.Kind[] kinds = Call.Kind.values();
                calls.add(Call.draw(random, kinds[random.nextInt(kinds.length)], NO_WILD_NUMBERS));
            }
            calls.addAll(Glance.calls());
        }
        return calls;
    }
}
