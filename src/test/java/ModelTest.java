import java.util.Random;

/** Long runs of calls drawn from fixed seeds, every answer against the model's. */
public final class ModelTest {
    private static final int RUNS = 1500;
    private static final int CALLS = 512;
    private static final int[] EDGES = {Integer.MIN_VALUE, -1, 60, 61, Integer.MAX_VALUE};
    private static final int[] SEEDS = {0, 1, 19, 31, 32, -1, Integer.MIN_VALUE, Integer.MAX_VALUE};
    private static final int[] MTUS = {8, 8, 9, 10, 12, 16, 23, 24, 7, 25, 0, Integer.MIN_VALUE, Integer.MAX_VALUE};

    private static int[][] seenStates = new int[2][6];

    public static void main(String[] args) {
        for (int run = 0; run < RUNS; run++) {
            run(run);
        }
        for (int state = 0; state <= 5; state++) {
            Check.yes("some run ends with the client in state " + state, seenStates[0][state] > 0);
            if (state <= 2 || state == 5) {
                Check.yes("some run ends with the server in state " + state, seenStates[1][state] > 0);
            }
        }
        Check.end();
    }

    private static void run(int run) {
        Random random = new Random(run);
        int seed = random.nextInt(3) == 0 ? SEEDS[random.nextInt(SEEDS.length)] : random.nextInt();
        int mtu = MTUS[random.nextInt(MTUS.length)];
        LossyHandshake x = new LossyHandshake(seed, mtu);
        Model m = new Model(seed, mtu);
        int[] weights = weights(random);
        int until = random.nextInt(10) == 0 ? random.nextInt(20) : CALLS;
        for (int call = 0; call < until; call++) {
            step(run, call, random, weights, x, m);
            compare("run " + run + " after call " + call + ": ", x, m);
        }
        seenStates[0][x.state(0)]++;
        seenStates[1][x.state(1)]++;
    }

    /** How often a run starts, ticks, sends, delivers, drops, copies and spoils differs from run to run. */
    private static int[] weights(Random random) {
        int[] most = {3, 60, 20, 60, 10, 20, 8};
        int[] weights = new int[most.length];
        for (int i = 0; i < most.length; i++) {
            weights[i] = random.nextInt(3) == 0 ? 0 : random.nextInt(most[i]);
        }
        weights[0] = Math.max(weights[0], 1);
        weights[3] = Math.max(weights[3], random.nextInt(4));
        return weights;
    }

    private static int choose(Random random, int[] weights) {
        int all = 0;
        for (int w : weights) {
            all += w;
        }
        int left = random.nextInt(all);
        for (int i = 0; i < weights.length; i++) {
            left -= weights[i];
            if (left < 0) {
                return i;
            }
        }
        return 0;
    }

    private static int place(Random random, int waiting) {
        int kind = random.nextInt(20);
        if (kind == 0) {
            return EDGES[random.nextInt(EDGES.length)];
        }
        return kind < 12 ? 0 : kind < 14 ? waiting - 1 : random.nextInt(waiting + 1);
    }

    private static void step(int run, int call, Random random, int[] weights, LossyHandshake x, Model m) {
        int i = place(random, m.net.size());
        String at = "run " + run + " call " + call + ": ";
        switch (choose(random, weights)) {
            case 0 -> Check.due(at + "start()", bit(x.start()), bit(m.start()));
            case 1 -> Check.due(at + "tick()", x.tick(), m.tick());
            case 2 -> {
                int side = random.nextInt(20) == 0 ? random.nextInt() : random.nextInt(2);
                int value = random.nextInt();
                Check.due(at + "send(" + side + ", " + value + ")", bit(x.send(side, value)),
                        bit(m.send(side, value)));
            }
            case 3 -> Check.due(at + "deliver(" + i + ")", x.deliver(i), m.deliver(i));
            case 4 -> Check.due(at + "drop(" + i + ")", bit(x.drop(i)), bit(m.drop(i)));
            case 5 -> Check.due(at + "copy(" + i + ")", bit(x.copy(i)), bit(m.copy(i)));
            default -> Check.due(at + "spoil(" + i + ")", bit(x.spoil(i)), bit(m.spoil(i)));
        }
    }

    private static int bit(boolean b) {
        return b ? 1 : 0;
    }

    private static void compare(String at, LossyHandshake x, Model m) {
        Check.due(at + "waiting()", x.waiting(), m.net.size());
        Check.due(at + "lost()", x.lost(), m.lost);
        for (int i = -1; i <= m.net.size(); i++) {
            Check.due(at + "record " + i, x.record(i), m.record(i));
            Check.due(at + "content " + i, x.content(i), m.content(i));
            int last = i + 1 >= m.net.size() ? 25 : 1;
            for (int k = -1; k < last; k++) {
                Check.due(at + "byteOf " + i, x.byteOf(i, k), m.byteOf(i, k));
            }
        }
        for (int side = 0; side < 2; side++) {
            Check.due(at + "state " + side, x.state(side), m.state(side));
            Check.due(at + "transcript " + side, x.transcript(side), m.transcript(side));
            Check.due(at + "open " + side, x.open(side), m.open(side));
            Check.due(at + "kept " + side, x.kept(side), m.kept(side));
            Check.due(at + "received " + side, x.received(side), m.received(side));
            for (int i = -1; i <= m.received(side); i++) {
                Check.due(at + "value " + side + " " + i, x.value(side, i), m.value(side, i));
            }
        }
    }
}
