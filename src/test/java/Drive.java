/** Brings new objects to the points where the tests begin. */
final class Drive {
    private Drive() { }

    static void deliverAll(Counted x) {
        for (int i = 0; i < 200 && x.deliver(0) != LossyHandshake.BAD; i++) { }
    }

    static void dropAll(Counted x) {
        for (int i = 0; i < 100 && x.drop(0); i++) { }
    }

    /** Leaves the first records alone in the net. */
    static void dropAllBehind(Counted x, int count) {
        for (int i = 0; i < 100 && x.drop(count); i++) { }
    }

    /** Answers how many records were sent. */
    static int ticks(Counted x, int count) {
        int sent = 0;
        for (int i = 0; i < count; i++) {
            sent += x.tick();
        }
        return sent;
    }

    /** The client is in state 2, its HELLO AGAIN alone in the net. */
    static Counted helloAgainSent(int seed, int mtu) {
        Counted x = new Counted(seed, mtu);
        x.start();
        x.deliver(0);
        x.deliver(0);
        return x;
    }

    /** The server is in state 1, its flight alone in the net. */
    static Counted flightSent(int seed, int mtu) {
        Counted x = helloAgainSent(seed, mtu);
        x.deliver(0);
        return x;
    }

    /** The client is in state 3, its DONE alone in the net. */
    static Counted clientDoneSent(int seed, int mtu) {
        Counted x = flightSent(seed, mtu);
        deliverWhileWaiting(x);
        return x;
    }

    /** Hands over the oldest records as long as the client has sent its HELLO AGAIN and no DONE. */
    static void deliverWhileWaiting(Counted x) {
        for (int i = 0; i < 100 && x.state(0) == 2; i++) {
            x.deliver(0);
        }
    }

    /** Both sides are through, the net is empty. */
    static Counted through(int seed, int mtu) {
        Counted x = new Counted(seed, mtu);
        x.start();
        deliverAll(x);
        return x;
    }

    /** Fills the net with copies of record 0. */
    static void fill(Counted x) {
        for (int i = 0; i < 100 && x.copy(0); i++) { }
    }

    /** Puts copies of record i behind the others until so many are in the net. */
    static void copyUntil(Counted x, int i, int count) {
        for (int k = x.waiting(); k < count; k++) {
            x.copy(i);
        }
    }

    static void sendMany(Counted x, int side, int count) {
        for (int value = 0; value < count; value++) {
            x.send(side, value);
        }
    }

    /** The place of the first record that is a fragment of that message of that side; BAD if there is none. */
    static int find(Counted x, int side, int message) {
        for (int i = 0; i < x.waiting(); i++) {
            if (x.record(i) / 100000 == 10 * side && x.content(i) / 10000 == message) {
                return i;
            }
        }
        return LossyHandshake.BAD;
    }
}
