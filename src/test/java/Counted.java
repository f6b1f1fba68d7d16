/** An object under test that counts its calls: what it answers after the 512th is free, so no test may ask it. */
final class Counted {
    static final int MOST_CALLS = 512;

    private final LossyHandshake inner;
    private int calls;

    Counted(int seed, int mtu) {
        inner = new LossyHandshake(seed, mtu);
    }

    private LossyHandshake called() {
        calls++;
        if (calls == MOST_CALLS + 1) {
            Check.due("a test that calls one object too often", calls, MOST_CALLS);
        }
        return inner;
    }

    int callsLeft() {
        return MOST_CALLS - calls;
    }

    boolean start() {
        return called().start();
    }

    int tick() {
        return called().tick();
    }

    boolean send(int side, int value) {
        return called().send(side, value);
    }

    int deliver(int i) {
        return called().deliver(i);
    }

    boolean drop(int i) {
        return called().drop(i);
    }

    boolean copy(int i) {
        return called().copy(i);
    }

    boolean spoil(int i) {
        return called().spoil(i);
    }

    int waiting() {
        return called().waiting();
    }

    int lost() {
        return called().lost();
    }

    int record(int i) {
        return called().record(i);
    }

    int content(int i) {
        return called().content(i);
    }

    int byteOf(int i, int k) {
        return called().byteOf(i, k);
    }

    int state(int side) {
        return called().state(side);
    }

    int transcript(int side) {
        return called().transcript(side);
    }

    int open(int side) {
        return called().open(side);
    }

    int kept(int side) {
        return called().kept(side);
    }

    int received(int side) {
        return called().received(side);
    }

    int value(int side, int i) {
        return called().value(side, i);
    }
}
