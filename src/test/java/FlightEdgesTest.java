/** The sentences on flights, fragments and waiting that name an edge, each with a test of its own. */
public final class FlightEdgesTest {
    private static final int FAILED = 5;

    public static void main(String[] args) {
        Check.part("cut into pieces of mtu bytes from its beginning on (the last one may be shorter)",
                FlightEdgesTest::theLastPieceMayBeShorter);
        Check.part("It holds a FRAGMENT (a message's number, an offset, some of its bytes)",
                FlightEdgesTest::aPieceHasTheBytesFromItsOffset);
        Check.part("(HELLO, RETRY, HELLO AGAIN, ANSWER, TERMS and both DONE are always whole in a record, as mtu is "
                + "at least 8.)", FlightEdgesTest::shortMessagesAreWhole);
        Check.part("a fragment of it is OPEN until it is acknowledged",
                FlightEdgesTest::aFragmentIsOpenUntilItIsAcknowledged);
        Check.part("When it begins to care for a flight it waits 4 ticks", FlightEdgesTest::itWaitsFourTicksAtFirst);
        Check.part("waits twice as long as before, but 32 ticks at most",
                FlightEdgesTest::itWaitsTwiceAsLongButThirtyTwoAtMost);
        Check.part("when it would do so for the seventh time it does not, but FAILS instead",
                FlightEdgesTest::theSeventhTimeItFails);
        Check.part("FAILS instead: it cares for nothing any more", FlightEdgesTest::whoFailedCaresForNothing);
        Check.part("A side has one flight at most that it CARES for (the other side's is none of its own)",
                FlightEdgesTest::theServerFailsAlone);
        Check.part("each time that it has waited it sends all open fragments again",
                FlightEdgesTest::onlyOpenFragmentsAreSentAgain);
        Check.part("sends all open fragments again (in new records)", FlightEdgesTest::whatIsSentAgainGoesInNewRecords);
        Check.part("each time that it has waited (an ACK does not begin it anew)",
                FlightEdgesTest::anAckDoesNotChangeTheWait);
        Check.part("It does nothing of that when no fragment is open.",
                FlightEdgesTest::nothingIsDoneWhenNothingIsOpen);
        Check.part("RETRY is no flight.", FlightEdgesTest::aRetryIsNoFlight);
        Check.part("it cares for that flight in place of the other",
                FlightEdgesTest::theNextFlightComesInPlaceOfTheOther);
        Check.part("When it begins to care for a flight it waits 4 ticks (whatever became of the one before)",
                FlightEdgesTest::theNextFlightHasSixTimesOfItsOwn);
        Check.end();
    }

    private static void theLastPieceMayBeShorter() {
        for (int mtu = 8; mtu <= 24; mtu++) {
            for (int more = 0; more <= 31; more++) {
                int length = 12 + more;
                int pieces = (length + mtu - 1) / mtu;
                Counted x = Drive.flightSent(more, mtu);
                String what = length + " bytes by " + mtu;
                Check.due(what + ", records", x.waiting(), pieces + 3);
                Check.due(what + ", open", x.open(1), pieces + 3);
                for (int i = 0; i < pieces; i++) {
                    int bytes = i == pieces - 1 ? length - i * mtu : mtu;
                    Check.due(what + ", piece " + i, x.content(2 + i), 30000 + 100 * i * mtu + bytes);
                }
                Check.due(what + ", DONE behind it", x.content(2 + pieces), 40004);
            }
        }
    }

    private static void aPieceHasTheBytesFromItsOffset() {
        for (int mtu = 8; mtu <= 24; mtu++) {
            byte[] proof = new Contents(31).proof;
            Counted x = Drive.flightSent(31, mtu);
            for (int at = 0; at < proof.length; at++) {
                Check.due("byte " + at + " by " + mtu, x.byteOf(2 + at / mtu, at % mtu), proof[at] & 255);
            }
        }
    }

    private static void shortMessagesAreWhole() {
        for (int mtu : new int[] {Integer.MIN_VALUE, 0, 4, 6, 7, 8, 24}) {
            Counted x = new Counted(31, mtu);
            x.start();
            Check.due("HELLO", x.content(0), 8);
            x.deliver(0);
            Check.due("RETRY", x.content(0), 4);
            x.deliver(0);
            Check.due("HELLO AGAIN", x.content(0), 10008);
            x.deliver(0);
            Check.due("ANSWER", x.content(0), 10004);
            Check.due("TERMS", x.content(1), 20006);
            Check.due("the server's DONE", x.content(x.waiting() - 1), 40004);
            Drive.deliverWhileWaiting(x);
            Check.due("the client's DONE", x.content(0), 20004);
            Check.due("alone", x.waiting(), 1);
        }
    }

    private static void aFragmentIsOpenUntilItIsAcknowledged() {
        Counted x = Drive.flightSent(31, 8);
        for (int pieces = 1; pieces <= 8; pieces++) {
            x.deliver(0);
            Check.due("a piece that was only delivered", x.open(1), 9);
        }
        Drive.ticks(x, 2);
        Check.due("an ACK that is under way", x.open(1), 9);
        x.deliver(1);
        Check.due("all but DONE", x.open(1), 1);
    }

    /** Beginning, for each kind of flight: that many records are sent each time. */
    private static Counted flightOf(int kind) {
        switch (kind) {
            case 0:
                Counted x = new Counted(9, 8);
                x.start();
                return x;
            case 1:
                return Drive.helloAgainSent(9, 8);
            case 2:
                x = Drive.clientDoneSent(9, 8);
                x.deliver(0);
                return x;
            default:
                x = Drive.flightSent(9, 8);
                x.deliver(0);
                x.drop(5);
                Drive.ticks(x, 2);
                x.deliver(x.waiting() - 1);
                return x;
        }
    }

    private static void itWaitsFourTicksAtFirst() {
        for (int kind = 0; kind < 3; kind++) {
            Counted x = flightOf(kind);
            Check.due("flight " + kind + ", three ticks", Drive.ticks(x, 3), 0);
            Check.due("flight " + kind + ", the fourth", x.tick(), 1);
        }
        Counted x = Drive.flightSent(9, 8);
        x.deliver(0);
        Check.due("the server's, three ticks and an ACK", Drive.ticks(x, 3), 1);
        Check.due("the server's, the fourth", x.tick(), 6);
        for (int before = 0; before < 12; before++) {
            x = new Counted(9, 8);
            Drive.ticks(x, before);
            x.start();
            Check.due("begun at " + before + ", three ticks", Drive.ticks(x, 3), 0);
            Check.due("begun at " + before + ", the fourth", x.tick(), 1);
        }
    }

    private static void itWaitsTwiceAsLongButThirtyTwoAtMost() {
        int[] waits = {4, 8, 16, 32, 32, 32};
        for (int kind = 0; kind < 3; kind++) {
            Counted x = flightOf(kind);
            for (int wait : waits) {
                Check.due("flight " + kind + ", before " + wait, Drive.ticks(x, wait - 1), 0);
                Check.due("flight " + kind + ", after " + wait, x.tick(), 1);
            }
        }
        Counted x = flightOf(3);
        Check.due("the server's, before", x.tick(), 0);
        Check.due("the server's, after 4", x.tick(), 5);
        for (int i = 1; i < waits.length; i++) {
            Check.due("the server's, before " + waits[i], Drive.ticks(x, waits[i] - 1), 0);
            Check.due("the server's, after " + waits[i], x.tick(), 5);
        }
    }

    private static void theSeventhTimeItFails() {
        for (int kind = 0; kind < 3; kind++) {
            Counted x = flightOf(kind);
            int state = x.state(0);
            Check.due("flight " + kind + ", six times", Drive.ticks(x, 124), 6);
            Check.due("flight " + kind + ", before the seventh", Drive.ticks(x, 31), 0);
            Check.due("flight " + kind + ", state before", x.state(0), state);
            Check.due("flight " + kind + ", open before", x.open(0), 1);
            Check.due("flight " + kind + ", the seventh", x.tick(), 0);
            Check.due("flight " + kind + ", state", x.state(0), FAILED);
        }
        Counted x = flightOf(3);
        Check.due("the server's, six times", Drive.ticks(x, 122), 30);
        Check.due("the server's, before the seventh", Drive.ticks(x, 31), 0);
        Check.due("the server's, state before", x.state(1), 1);
        Check.due("the server's, open before", x.open(1), 5);
        Check.due("the server's, the seventh", x.tick(), 0);
        Check.due("the server's, state", x.state(1), FAILED);
    }

    private static void whoFailedCaresForNothing() {
        for (int kind = 0; kind < 4; kind++) {
            int side = kind == 3 ? 1 : 0;
            Counted x = flightOf(kind);
            Drive.ticks(x, 156);
            Check.due("flight " + kind + ", failed", x.state(side), FAILED);
            Check.due("flight " + kind + ", open", x.open(side), 0);
            Check.due("flight " + kind + ", nothing is sent", Drive.ticks(x, 200), 0);
            Check.no("flight " + kind + ", no DATA", x.send(side, 1));
            Check.no("flight " + kind + ", no start", x.start());
        }
    }

    private static void theServerFailsAlone() {
        Counted x = flightOf(3);
        Drive.ticks(x, 154);
        Check.due("the server", x.state(1), FAILED);
        Check.due("the client, which cares for nothing, waits", x.state(0), 2);
        Check.due("for ever", Drive.ticks(x, 200), 0);
        Check.due("the client", x.state(0), 2);
        x = flightOf(1);
        x.deliver(0);
        x.deliver(0);
        Drive.deliverWhileWaiting(x);
        Check.due("the client's DONE", x.state(0), 3);
        x.deliver(0);
        Drive.dropAll(x);
        Drive.ticks(x, 156);
        Check.due("the client", x.state(0), FAILED);
        Check.due("the server", x.state(1), 2);
        Check.yes("the server sends", x.send(1, 5));
    }

    private static void onlyOpenFragmentsAreSentAgain() {
        Counted x = Drive.flightSent(31, 8);
        x.deliver(0);
        x.deliver(1);
        x.deliver(3);
        Drive.dropAll(x);
        Drive.ticks(x, 2);
        x.deliver(0);
        Check.due("open", x.open(1), 6);
        Check.due("sent", Drive.ticks(x, 2), 6);
        int[] due = {20006, 30808, 31608, 33208, 34003, 40004};
        for (int i = 0; i < due.length; i++) {
            Check.due("piece " + i, x.content(i), due[i]);
        }
        x.deliver(0);
        x.deliver(4);
        Drive.dropAll(x);
        Drive.ticks(x, 2);
        x.deliver(0);
        Check.due("open", x.open(1), 4);
        Check.due("sent", Drive.ticks(x, 6), 4);
        Check.due("the first of them", x.content(0), 30808);
    }

    private static void whatIsSentAgainGoesInNewRecords() {
        Counted x = Drive.flightSent(0, 8);
        Drive.ticks(x, 12);
        int[] due = {1000001, 1020000, 1020001, 1020002, 1020003, 2, 1000002, 1020004, 1020005, 1020006, 1020007,
            3, 1000003, 1020008, 1020009, 1020010, 1020011};
        Check.due("records", x.waiting(), due.length);
        for (int i = 0; i < due.length; i++) {
            Check.due("record " + i, x.record(i), due[i]);
        }
        for (int i = 6; i < 11; i++) {
            Check.due("the same piece", x.content(i), x.content(i - 6));
            Check.due("its first byte", x.byteOf(i, 0), x.byteOf(i - 6, 0));
            Check.due("its last byte", x.byteOf(i, 3), x.byteOf(i - 6, 3));
        }
        Check.due("the first ANSWER", x.deliver(0), 1);
        Check.due("the second is not old", x.deliver(5), 1);
    }

    private static void anAckDoesNotChangeTheWait() {
        Counted x = Drive.flightSent(31, 8);
        x.deliver(0);
        Drive.ticks(x, 2);
        x.deliver(8);
        Check.due("the third tick", x.tick(), 0);
        Check.due("the fourth", x.tick(), 8);
        x.deliver(0);
        Drive.ticks(x, 2);
        x.deliver(x.waiting() - 1);
        Check.due("the eleventh", Drive.ticks(x, 5), 0);
        Check.due("the twelfth", x.tick(), 7);
        Drive.dropAllBehind(x, 1);
        Drive.ticks(x, 48);
        x.deliver(0);
        Check.due("an ACK after the sixtieth", Drive.ticks(x, 2), 1);
        x.deliver(x.waiting() - 1);
        Check.due("one less is open", x.open(1), 6);
        Check.due("the ninety-first", Drive.ticks(x, 29), 0);
        Check.due("the ninety-second", x.tick(), 6);
        Check.due("the sixth time", Drive.ticks(x, 32), 6);
        Check.due("before the end", Drive.ticks(x, 31), 0);
        Check.due("not yet failed", x.state(1), 1);
        x.tick();
        Check.due("failed at its time", x.state(1), FAILED);
    }

    private static void nothingIsDoneWhenNothingIsOpen() {
        Counted x = Drive.through(31, 8);
        Check.due("both through", Drive.ticks(x, 400), 0);
        Check.due("the client", x.state(0), 4);
        Check.due("the server", x.state(1), 2);
        x = flightOf(3);
        Check.due("the client's open", x.open(0), 0);
        Drive.ticks(x, 156);
        Check.due("the client in state 2", Drive.ticks(x, 300), 0);
        Check.due("does not fail", x.state(0), 2);
        x = new Counted(3, 8);
        Check.due("a new object", Drive.ticks(x, 500), 0);
        Check.due("does not fail", x.state(0) + x.state(1), 0);
    }

    private static void aRetryIsNoFlight() {
        Counted x = new Counted(3, 8);
        x.start();
        x.deliver(0);
        Check.due("open", x.open(1), 0);
        Drive.dropAll(x);
        Check.due("the client's HELLO alone is sent again", Drive.ticks(x, 4), 1);
        Check.due("HELLO", x.record(0), 1);
        Drive.ticks(x, 152);
        Check.due("the client fails", x.state(0), FAILED);
        Check.due("the server does not", x.state(1), 0);
    }

    private static void theNextFlightComesInPlaceOfTheOther() {
        for (int ticks = 0; ticks < 4; ticks++) {
            Counted x = new Counted(0, 24);
            x.start();
            x.deliver(0);
            Drive.ticks(x, ticks);
            x.deliver(0);
            Check.due("open", x.open(0), 1);
            Drive.dropAll(x);
            Check.due("HELLO AGAIN after " + ticks + ", three ticks", Drive.ticks(x, 3), 0);
            Check.due("HELLO AGAIN after " + ticks + ", the fourth", x.tick(), 1);
            Check.due("and no HELLO", x.content(0), 10008);
            x.deliver(0);
            Drive.ticks(x, ticks);
            Drive.deliverWhileWaiting(x);
            Check.due("open", x.open(0), 1);
            x.deliver(0);
            Drive.dropAll(x);
            Check.due("DONE after " + ticks + ", three ticks", Drive.ticks(x, 3), 0);
            Check.due("DONE after " + ticks + ", the fourth", x.tick(), 1);
            Check.due("and nothing else", x.content(0), 20004);
        }
    }

    private static void theNextFlightHasSixTimesOfItsOwn() {
        Counted x = new Counted(0, 24);
        x.start();
        x.deliver(0);
        Drive.ticks(x, 155);
        x.deliver(0);
        Drive.dropAll(x);
        Check.due("HELLO AGAIN, six times", Drive.ticks(x, 124), 6);
        Check.due("before the end", Drive.ticks(x, 31), 0);
        Check.due("state", x.state(0), 2);
        x.deliver(0);
        for (int i = 0; i < 4; i++) {
            x.deliver(5);
        }
        Check.due("state", x.state(0), 3);
        x.deliver(5);
        Drive.dropAll(x);
        Check.due("DONE, six times", Drive.ticks(x, 124), 6);
        Check.due("state", x.state(0), 3);
        Check.due("before the end", Drive.ticks(x, 31), 0);
        Check.due("state", x.state(0), 3);
    }
}
