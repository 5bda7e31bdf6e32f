import java.util.Random;

/** Runs of calls drawn from fixed seeds: the program and the model must answer alike, to every call and at the end. */
public final class ModelTest {
    private static final int RUNS = 6000;
    private static final int MOST_CALLS = 512;
    private static final int KINDS = 19;
    private static final int[] WILD = {Integer.MIN_VALUE, -1000, -1, 0, 1, 2, 4, 8, 10, 31, 32, 99, 100, 101, 1000, 1001,
        Integer.MAX_VALUE};

    private final Random random;
    private final int[] weights = new int[KINDS];
    private final int wildEvery;
    private final PriorityKernel kernel;
    private final Model model;
    private final StringBuilder told = new StringBuilder();

    private ModelTest(long seed) {
        random = new Random(seed);
        int slice = random.nextInt(8) == 0 ? wild() : between(1, 5);
        int ceiling = random.nextInt(8) == 0 ? wild() : between(1, 31);
        told.append("new PriorityKernel(").append(slice).append(", ").append(ceiling).append(")\n");
        kernel = new PriorityKernel(slice, ceiling);
        model = new Model(slice, ceiling);
        for (int kind = 0; kind < KINDS; kind++) {
            weights[kind] = random.nextInt(10);
        }
        weights[0] = Math.max(weights[0], 2);
        wildEvery = between(10, 200);
    }

    public static void main(String[] args) {
        for (int run = 0; run < RUNS && !Check.anyWrong(); run++) {
            new ModelTest(run).play();
        }
        Check.end();
    }

    private void play() {
        int calls = between(1, MOST_CALLS - 59);
        for (int i = 0; i < calls && !Check.anyWrong(); i++) {
            call(drawKind());
        }
        for (int t = 0; t < 8; t++) {
            for (int what = 0; what < 6; what++) {
                due("tell", kernel.tell(t, what), model.tell(t, what), t, what);
            }
        }
        for (int m = 0; m < 4; m++) {
            due("owner", kernel.owner(m), model.owner(m), m);
        }
        for (int what = 0; what < 6; what++) {
            due("count", kernel.count(what), model.count(what), what);
        }
        due("running", kernel.running(), model.running());
        if (Check.anyWrong()) {
            System.out.println("the run was:\n" + told);
        }
    }

    private int drawKind() {
        int sum = 0;
        for (int weight : weights) {
            sum += weight;
        }
        int drawn = random.nextInt(sum);
        int kind = 0;
        while (drawn >= weights[kind]) {
            drawn -= weights[kind];
            kind++;
        }
        return kind;
    }

    private void call(int kind) {
        boolean flag = random.nextBoolean();
        int a;
        int b;
        int c;
        switch (kind) {
            case 0 -> due("spawn", kernel.spawn(a = number(1, 9), flag), model.spawn(a, flag), a, flag);
            case 1 -> due("priority", kernel.priority(a = number(0, 7), b = number(1, 31)), model.priority(a, b), a, b);
            case 2 -> due("pass", kernel.pass(), model.pass());
            case 3 -> due("lock", kernel.lock(a = number(0, 3)), model.lock(a), a);
            case 4 -> due("unlock", kernel.unlock(a = number(0, 3)), model.unlock(a), a);
            case 5 -> due("await", kernel.await(a = number(0, 1), b = number(0, 3), c = span()), model.await(a, b, c), a, b, c);
            case 6 -> due("signal", kernel.signal(a = number(0, 1), flag), model.signal(a, flag), a, flag);
            case 7 -> due("down", kernel.down(a = number(0, 1), b = span()), model.down(a, b), a, b);
            case 8 -> due("post", kernel.post(a = number(0, 1)), model.post(a), a);
            case 9 -> due("send", kernel.send(a = number(0, 1), b = number(0, 9), c = random.nextInt()), model.send(a, b, c), a, b, c);
            case 10 -> due("receive", kernel.receive(a = number(0, 1)), model.receive(a), a);
            case 11 -> due("sleep", kernel.sleep(a = span()), model.sleep(a), a);
            case 12 -> due("join", kernel.join(a = number(0, 7)), model.join(a), a);
            case 13 -> due("exit", kernel.exit(a = random.nextInt()), model.exit(a), a);
            case 14 -> due("tick", kernel.tick(a = random.nextInt(20) == 0 ? number(1, 100) : number(1, 4)), model.tick(a), a);
            case 15 -> due("running", kernel.running(), model.running());
            case 16 -> due("tell", kernel.tell(a = number(0, 7), b = number(0, 5)), model.tell(a, b), a, b);
            case 17 -> due("owner", kernel.owner(a = number(0, 3)), model.owner(a), a);
            default -> due("count", kernel.count(a = number(0, 5)), model.count(a), a);
        }
    }

    private void due(String name, long got, long want, Object... arguments) {
        StringBuilder call = new StringBuilder(name).append('(');
        for (int i = 0; i < arguments.length; i++) {
            call.append(i == 0 ? "" : ", ").append(arguments[i]);
        }
        call.append(')');
        told.append(call).append(" = ").append(got).append('\n');
        Check.due(call.toString(), got, want);
    }

    private int span() {
        return random.nextInt(12) == 0 ? number(0, 1000) : number(0, 6);
    }

    private int number(int least, int greatest) {
        return random.nextInt(wildEvery) == 0 ? wild() : between(least, greatest);
    }

    private int wild() {
        return WILD[random.nextInt(WILD.length)];
    }

    private int between(int least, int greatest) {
        return least + random.nextInt(greatest - least + 1);
    }
}
