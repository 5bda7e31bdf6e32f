import java.util.Random;

/** Runs of calls drawn from fixed seeds: the program and the model must answer alike, to every call and at the end. */
public final class ModelTest extends Check {
    private static final int RUNS = 6000;
    private static final int MOST_CALLS = 512;

    private final Random random;
    private final int[] weights = new int[Call.Kind.values().length];
    private final int wildEvery;
    private final PriorityKernel kernel;
    private final Model model;
    private final StringBuilder told = new StringBuilder();

    private ModelTest(long seed) {
        random = new Random(seed);
        int slice = random.nextInt(8) == 0 ? Call.wild(random) : Call.between(random, 1, 5);
        int ceiling = random.nextInt(8) == 0 ? Call.wild(random) : Call.between(random, 1, 31);
        told.append("new PriorityKernel(").append(slice).append(", ").append(ceiling).append(")\n");
        kernel = new PriorityKernel(slice, ceiling);
        model = new Model(slice, ceiling);
        for (int kind = 0; kind < weights.length; kind++) {
            weights[kind] = random.nextInt(10);
        }
        weights[Call.Kind.SPAWN.ordinal()] = Call.between(random, 2, 9);
        wildEvery = Call.between(random, 10, 200);
    }

    public static void main(String[] args) {
        for (int run = 0; run < RUNS && !anyWrong(); run++) {
            new ModelTest(run).play();
        }
        end();
    }

    private void play() {
        int calls = Call.between(random, 1, MOST_CALLS - Glance.calls().size());
        for (int i = 0; i < calls && !anyWrong(); i++) {
            alike(Call.draw(random, drawKind(), wildEvery));
        }
        for (Call look : Glance.calls()) {
            alike(look);
        }
        if (anyWrong()) {
            System.out.println("the run was:\n" + told);
        }
    }

    private Call.Kind drawKind() {
        int sum = 0;
        for (int weight : weights) {
            sum += weight;
        }
        int drawn = random.nextInt(sum);
        int kind = 0;
        while (drawn >= weights[kind]) {
            drawn -= weights[kind];
            kind++;
        }
        return Call.Kind.values()[kind];
    }

    private void alike(Call call) {
        long got = call.on(kernel);
        told.append(call).append(" = ").append(got).append('\n');
        due(call.toString(), got, call.on(model));
    }
}
