import java.util.Random;

/** Long runs of calls drawn from fixed seeds, every answer against the model's. */
public final class ModelTest {
    private static final int RUNS = 15000;
    private static final int[] EDGES = {Integer.MIN_VALUE, -1, 60, 61, Integer.MAX_VALUE};
    private static final int[] NO_SIDES = {Integer.MIN_VALUE, -1, 2, 3, Integer.MAX_VALUE};
    private static final int[] SEEDS = {0, 1, 19, 31, 32, -1, Integer.MIN_VALUE, Integer.MAX_VALUE};
    private static final int[] MTUS = {8, 8, 9, 10, 12, 16, 23, 24, 7, 25, 0, Integer.MIN_VALUE, Integer.MAX_VALUE};

    private static final int[][] seenStates = new int[2][6];

    public static void main(String[] args) {
        for (int run = 0; run < RUNS; run++) {
            run(run);
        }
        for (int state = 0; state <= 5; state++) {
            Check.yes("some run ends with the client in state " + state, seenStates[0][state] > 0);
            if (state <= 2 || state == 5) {
                Check.yes("some run ends with the server in state " + state, seenStates[1][state] > 0);
            }
        }
        Check.end();
    }

    private static void run(int run) {
        Random random = new Random(run);
        int seed = random.nextInt(3) == 0 ? SEEDS[random.nextInt(SEEDS.length)] : random.nextInt();
        int mtu = MTUS[random.nextInt(MTUS.length)];
        Counted x = new Counted(seed, mtu);
        Model m = new Model(seed, mtu);
        int[] weights = weights(random);
        int looks = random.nextInt(4);
        int callsNotUsed = random.nextInt(10) == 0 ? 490 : 0;
        while (x.callsLeft() > callsNotUsed) {
            Check.begin("run " + run + " before its last " + x.callsLeft() + " calls");
            if (random.nextInt(4) < looks) {
                look(random, x, m);
            } else {
                act(random, weights, x, m);
            }
        }
        seenStates[0][m.state(0)]++;
        seenStates[1][m.state(1)]++;
    }

    /** How often a run starts, ticks, sends, delivers, drops, copies and spoils differs from run to run. */
    private static int[] weights(Random random) {
        int[] most = {3, 60, 20, 60, 10, 20, 8};
        int[] weights = new int[most.length];
        for (int i = 0; i < most.length; i++) {
            weights[i] = random.nextInt(3) == 0 ? 0 : random.nextInt(most[i]);
        }
        weights[0] = Math.max(weights[0], 1);
        weights[3] = Math.max(weights[3], random.nextInt(4));
        return weights;
    }

    private static int choose(Random random, int[] weights) {
        int all = 0;
        for (int w : weights) {
            all += w;
        }
        int left = random.nextInt(all);
        for (int i = 0; i < weights.length; i++) {
            left -= weights[i];
            if (left < 0) {
                return i;
            }
        }
        return 0;
    }

    private static int place(Random random, int count) {
        int kind = random.nextInt(20);
        if (kind == 0) {
            return EDGES[random.nextInt(EDGES.length)];
        }
        return kind < 12 ? 0 : kind < 14 ? count - 1 : random.nextInt(count + 1);
    }

    private static int side(Random random) {
        return random.nextInt(20) == 0 ? NO_SIDES[random.nextInt(NO_SIDES.length)] : random.nextInt(2);
    }

    private static void act(Random random, int[] weights, Counted x, Model m) {
        int i = place(random, m.net.size());
        int side = side(random);
        int value = random.nextInt();
        switch (choose(random, weights)) {
            case 0 -> Check.due("start", bit(x.start()), bit(m.start()));
            case 1 -> Check.due("tick", x.tick(), m.tick());
            case 2 -> Check.due("send", bit(x.send(side, value)), bit(m.send(side, value)));
            case 3 -> Check.due("deliver", x.deliver(i), m.deliver(i));
            case 4 -> Check.due("drop", bit(x.drop(i)), bit(m.drop(i)));
            case 5 -> Check.due("copy", bit(x.copy(i)), bit(m.copy(i)));
            default -> Check.due("spoil", bit(x.spoil(i)), bit(m.spoil(i)));
        }
    }

    private static void look(Random random, Counted x, Model m) {
        int i = random.nextInt(m.net.size() + 2) - 1;
        int k = random.nextInt(28) - 1;
        int side = side(random);
        switch (random.nextInt(11)) {
            case 0 -> Check.due("waiting", x.waiting(), m.net.size());
            case 1 -> Check.due("lost", x.lost(), m.lost);
            case 2 -> Check.due("record", x.record(i), m.record(i));
            case 3 -> Check.due("content", x.content(i), m.content(i));
            case 4 -> Check.due("byteOf", x.byteOf(i, k), m.byteOf(i, k));
            case 5 -> Check.due("state", x.state(side), m.state(side));
            case 6 -> Check.due("transcript", x.transcript(side), m.transcript(side));
            case 7 -> Check.due("open", x.open(side), m.open(side));
            case 8 -> Check.due("kept", x.kept(side), m.kept(side));
            case 9 -> Check.due("received", x.received(side), m.received(side));
            default -> {
                int at = place(random, m.noSide(side) ? 0 : m.received(side));
                Check.due("value", x.value(side, at), m.value(side, at));
            }
        }
    }

    private static int bit(boolean b) {
        return b ? 1 : 0;
    }
}
