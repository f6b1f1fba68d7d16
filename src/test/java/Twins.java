/** Two objects that must answer alike, as the calls that only one of them got had to change nothing. */
final class Twins {
    private static final int ROUNDS = 6;

    private Twins() { }

    static void areAlike(Counted one, Counted other) {
        lookAlike(one, other);
        for (int round = 0; round < ROUNDS; round++) {
            Check.due("tick", one.tick(), other.tick());
            Check.due("tick", one.tick(), other.tick());
            Check.yes("send of the client", one.send(0, round) == other.send(0, round));
            Check.yes("send of the server", one.send(1, round) == other.send(1, round));
            for (int i = 0; i < 8; i++) {
                Check.due("deliver", one.deliver(i / 3), other.deliver(i / 3));
                int last = one.waiting() - 1;
                Check.due("the last record's content", one.content(last), other.content(last));
            }
            Check.yes("start", one.start() == other.start());
        }
        lookAlike(one, other);
    }

    static void lookAlike(Counted one, Counted other) {
        int waiting = one.waiting();
        Check.due("waiting", other.waiting(), waiting);
        Check.due("lost", other.lost(), one.lost());
        for (int i = 0; i < Math.min(waiting, 12); i++) {
            int k = waiting - 1 - i;
            Check.due("record " + k, other.record(k), one.record(k));
            Check.due("content " + k, other.content(k), one.content(k));
            Check.due("byteOf " + k, other.byteOf(k, 3), one.byteOf(k, 3));
        }
        for (int side = 0; side < 2; side++) {
            Check.due("state of " + side, other.state(side), one.state(side));
            Check.due("transcript of " + side, other.transcript(side), one.transcript(side));
            Check.due("open of " + side, other.open(side), one.open(side));
            Check.due("kept of " + side, other.kept(side), one.kept(side));
            int received = one.received(side);
            Check.due("received of " + side, other.received(side), received);
            Check.due("the last value of " + side, other.value(side, received - 1), one.value(side, received - 1));
        }
    }
}
