import java.util.Arrays;
import java.util.Random;

/** One call with its arguments, which can be made on several kernels and on the model. */
record Call(Kind kind, int[] numbers, boolean flag) {
    private static final int LEAST_INT = Integer.MIN_VALUE;
    private static final int GREATEST_INT = Integer.MAX_VALUE;
    private static final int[] WILD = {LEAST_INT, -1000, -1, 0, 1, 2, 4, 8, 10, 31, 32, 99, 100, 101, 1000, 1001,
        GREATEST_INT};

    private interface Maker<K> {
        long call(K kernel, int[] numbers, boolean flag);
    }

    /** The methods of the face; after the two ways to call it stand the least and the greatest of each number. */
    enum Kind {
        SPAWN((k, n, all) -> k.spawn(n[0], all), (k, n, all) -> k.spawn(n[0], all), 1, 9),
        PRIORITY((k, n, all) -> k.priority(n[0], n[1]), (k, n, all) -> k.priority(n[0], n[1]), 0, 7, 1, 31),
        PASS((k, n, all) -> k.pass(), (k, n, all) -> k.pass()),
        LOCK((k, n, all) -> k.lock(n[0]), (k, n, all) -> k.lock(n[0]), 0, 3),
        UNLOCK((k, n, all) -> k.unlock(n[0]), (k, n, all) -> k.unlock(n[0]), 0, 3),
        AWAIT((k, n, all) -> k.await(n[0], n[1], n[2]), (k, n, all) -> k.await(n[0], n[1], n[2]), 0, 1, 0, 3, 0, 1000),
        SIGNAL((k, n, all) -> k.signal(n[0], all), (k, n, all) -> k.signal(n[0], all), 0, 1),
        DOWN((k, n, all) -> k.down(n[0], n[1]), (k, n, all) -> k.down(n[0], n[1]), 0, 1, 0, 1000),
        POST((k, n, all) -> k.post(n[0]), (k, n, all) -> k.post(n[0]), 0, 1),
        SEND((k, n, all) -> k.send(n[0], n[1], n[2]), (k, n, all) -> k.send(n[0], n[1], n[2]), 0, 1, 0, 9, LEAST_INT, GREATEST_INT),
        RECEIVE((k, n, all) -> k.receive(n[0]), (k, n, all) -> k.receive(n[0]), 0, 1),
        SLEEP((k, n, all) -> k.sleep(n[0]), (k, n, all) -> k.sleep(n[0]), 1, 1000),
        JOIN((k, n, all) -> k.join(n[0]), (k, n, all) -> k.join(n[0]), 0, 7),
        EXIT((k, n, all) -> k.exit(n[0]), (k, n, all) -> k.exit(n[0]), LEAST_INT, GREATEST_INT),
        TICK((k, n, all) -> k.tick(n[0]), (k, n, all) -> k.tick(n[0]), 1, 100),
        RUNNING((k, n, all) -> k.running(), (k, n, all) -> k.running()),
        TELL((k, n, all) -> k.tell(n[0], n[1]), (k, n, all) -> k.tell(n[0], n[1]), 0, 7, 0, 5),
        OWNER((k, n, all) -> k.owner(n[0]), (k, n, all) -> k.owner(n[0]), 0, 3),
        COUNT((k, n, all) -> k.count(n[0]), (k, n, all) -> k.count(n[0]), 0, 5);

        private final Maker<PriorityKernel> onKernel;
        private final Maker<Model> onModel;
        private final int[] ranges;

        Kind(Maker<PriorityKernel> onKernel, Maker<Model> onModel, int... ranges) {
            this.onKernel = onKernel;
            this.onModel = onModel;
            this.ranges = ranges;
        }
    }

    static Call of(Kind kind, int... numbers) {
        return new Call(kind, numbers, false);
    }

    /** A call of this kind; one number in wildEvery is any, the others are in their range. */
    static Call draw(Random random, Kind kind, int wildEvery) {
        int[] numbers = new int[kind.ranges.length / 2];
        for (int i = 0; i < numbers.length; i++) {
            boolean any = random.nextInt(wildEvery) == 0;
            numbers[i] = any ? wild(random) : within(random, kind.ranges[2 * i], kind.ranges[2 * i + 1]);
        }
        return new Call(kind, numbers, random.nextBoolean());
    }

    static int wild(Random random) {
        return WILD[random.nextInt(WILD.length)];
    }

    static int between(Random random, int least, int greatest) {
        return least + random.nextInt(greatest - least + 1);
    }

    /** Times are mostly short, or no two deadlines would ever meet. */
    private static int within(Random random, int least, int greatest) {
        if (least == LEAST_INT) {
            return random.nextInt();
        }
        boolean time = greatest == 100 || greatest == 1000;
        return between(random, least, time && random.nextInt(12) != 0 ? 6 : greatest);
    }

    long on(PriorityKernel kernel) {
        return kind.onKernel.call(kernel, numbers, flag);
    }

    long on(Model model) {
        return kind.onModel.call(model, numbers, flag);
    }

    @Override
    public String toString() {
        return kind + " " + Arrays.toString(numbers) + " " + flag;
    }
}
