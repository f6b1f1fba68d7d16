/** The sentences on records, the net, numbers and epochs that name an edge, each with a test of its own. */
public final class NetEdgesTest {
    private static final int BAD = LossyHandshake.BAD;
    private static final int FULL = 60;

    public static void main(String[] args) {
        Check.part("THE NET holds records, at first none", NetEdgesTest::theNetIsEmptyAtFirst);
        Check.part("one that is sent comes behind all others", NetEdgesTest::whatIsSentComesBehindAllOthers);
        Check.part("with 60 there it is LOST (a HELLO)", NetEdgesTest::helloIsLost);
        Check.part("DELIVERING a record takes it out of the net (so what is sent then finds room)",
                NetEdgesTest::aRecordThatIsDeliveredLeavesRoom);
        Check.part("with 60 there it is LOST (of nine fragments those that find no room)",
                NetEdgesTest::partOfAFlightIsLost);
        Check.part("with 60 there it is LOST (of fragments that are sent again those that find no room)",
                NetEdgesTest::partOfAFlightThatIsSentAgainIsLost);
        Check.part("with 60 there it is LOST (an ACK)", NetEdgesTest::anAckIsLost);
        Check.part("with 60 there it is LOST (DATA)", NetEdgesTest::dataIsLost);
        Check.part("an ACK (up to 8 names of records, each an epoch and a number)",
                NetEdgesTest::anAckHasEightNamesAtMost);
        Check.part("Each side numbers its records in each epoch 0, 1, 2, ..",
                NetEdgesTest::eachEpochIsNumberedFromZero);
        Check.part("Each side numbers its records in each epoch 0, 1, 2, .. (copies and refused calls are none)",
                NetEdgesTest::nothingElseUsesANumber);
        Check.part("a RETRY has the number of the record with the HELLO that it answers",
                NetEdgesTest::aRetryHasTheNumberOfItsHello);
        Check.part("the server's other records in epoch 0 are numbered from the number of the record with the HELLO "
                + "AGAIN that it took", NetEdgesTest::theServerGoesOnFromTheHelloAgain);
        Check.part("HELLO, RETRY, HELLO AGAIN and ANSWER go in epoch 0, TERMS, PROOF and both DONE in epoch 2, DATA "
                + "in epoch 3", NetEdgesTest::eachMessageHasItsEpoch);
        Check.part("an ACK in the greatest epoch that its side WRITES", NetEdgesTest::anAckGoesInTheGreatestEpoch);
        Check.part("The client writes .. 3 as well when it has sent its DONE",
                NetEdgesTest::theClientWritesThreeWithItsDone);
        Check.part("It READS 0; 2 as well when it has taken the ANSWER", NetEdgesTest::theClientReadsTwoWithTheAnswer);
        Check.part("It READS 0; 2 as well ..; 3 as well ..", NetEdgesTest::theClientReadsOnInLesserEpochs);
        Check.part("writes and reads 3 as well when it has taken the client's DONE",
                NetEdgesTest::theServerReadsThreeWithTheClientsDone);
        Check.part("The server writes and reads 0; .. 2 as well ..; .. 3 as well ..",
                NetEdgesTest::theServerReadsOnInLesserEpochs);
        Check.end();
    }

    private static void theNetIsEmptyAtFirst() {
        Counted x = new Counted(5, 8);
        Check.due("waiting", x.waiting(), 0);
        Check.due("record", x.record(0), BAD);
        Check.due("content", x.content(0), BAD);
        Check.due("byteOf", x.byteOf(0, 0), BAD);
        Check.due("deliver", x.deliver(0), BAD);
        Check.no("drop", x.drop(0));
        Check.no("copy", x.copy(0));
        Check.no("spoil", x.spoil(0));
    }

    private static void whatIsSentComesBehindAllOthers() {
        Counted x = new Counted(5, 8);
        x.start();
        Drive.ticks(x, 12);
        Check.due("HELLO, first", x.record(0), 0);
        Check.due("HELLO, second", x.record(1), 1);
        Check.due("HELLO, third", x.record(2), 2);
        x.deliver(1);
        Check.due("the others move up", x.record(1), 2);
        Check.due("RETRY", x.record(2), 1000001);
        x.copy(0);
        Check.due("a copy", x.record(3), 0);
        x.deliver(2);
        Check.due("HELLO AGAIN behind the copy", x.record(3), 3);
        Check.due("the copy", x.record(2), 0);
    }

    private static void helloIsLost() {
        Counted x = new Counted(5, 8);
        x.start();
        Drive.copyUntil(x, 0, FULL - 1);
        Check.due("with 59 there", Drive.ticks(x, 4), 1);
        Check.due("it comes in", x.waiting(), FULL);
        Check.due("as the last", x.record(59), 1);
        Check.due("none is lost", x.lost(), 0);
        Check.due("with 60 there", Drive.ticks(x, 8), 1);
        Check.due("it does not", x.waiting(), FULL);
        Check.due("the last is as before", x.record(59), 1);
        Check.due("none is behind it", x.record(60), BAD);
        Check.due("it is lost", x.lost(), 1);
        x.drop(0);
        Check.due("and does not come back", x.waiting(), FULL - 1);
    }

    private static void aRecordThatIsDeliveredLeavesRoom() {
        Counted x = new Counted(31, 8);
        x.start();
        Drive.copyUntil(x, 0, FULL);
        x.deliver(0);
        Check.due("RETRY", x.record(59), 1000000);
        x.deliver(59);
        Check.due("HELLO AGAIN", x.record(59), 1);
        Check.due("waiting", x.waiting(), FULL);
        Check.due("lost", x.lost(), 0);
        x = Drive.flightSent(0, 24);
        for (int i = 0; i < 4; i++) {
            Drive.copyUntil(x, x.waiting() - 1, FULL);
            Check.due("the client's flight, piece " + i, x.deliver(0), 1);
        }
        Check.due("the client's DONE", x.record(59), 20000);
        Drive.copyUntil(x, 59, FULL);
        x.deliver(59);
        Check.due("its ACK", x.record(59), 1130000);
        Check.due("lost", x.lost(), 0);
    }

    private static void partOfAFlightIsLost() {
        int[][] due = {{50, 58, 0}, {51, 59, 0}, {52, 60, 0}, {53, 60, 1}, {54, 60, 2}, {59, 60, 7}, {60, 60, 8}};
        for (int[] row : due) {
            Counted x = Drive.helloAgainSent(31, 8);
            Drive.copyUntil(x, 0, row[0]);
            Check.due("HELLO AGAIN of " + row[0], x.deliver(0), 1);
            Check.due("waiting", x.waiting(), row[1]);
            Check.due("lost", x.lost(), row[2]);
            Check.due("ANSWER comes in", x.record(row[0] - 1), 1000001);
            Check.due("all are open", x.open(1), 9);
            Check.due("state", x.state(1), 1);
        }
    }

    private static void partOfAFlightThatIsSentAgainIsLost() {
        int[][] due = {{49, 59, 0, 1020015}, {50, 60, 0, 1020015}, {51, 60, 1, 1020014}, {52, 60, 2, 1020013},
            {58, 60, 8, 1000002}, {59, 60, 9, 2}, {60, 60, 10, 1000001}};
        for (int[] row : due) {
            Counted x = Drive.flightSent(31, 8);
            Drive.copyUntil(x, 0, row[0]);
            Check.due("HELLO AGAIN and the server's flight", Drive.ticks(x, 4), 10);
            Check.due("waiting", x.waiting(), row[1]);
            Check.due("lost", x.lost(), row[2]);
            Check.due("the last, from " + row[0], x.record(row[1] - 1), row[3]);
        }
    }

    private static void anAckIsLost() {
        Counted x = Drive.flightSent(31, 8);
        x.deliver(0);
        Drive.copyUntil(x, 0, FULL);
        Check.due("it is sent", Drive.ticks(x, 2), 1);
        Check.due("and lost", x.lost(), 1);
        Check.due("waiting", x.waiting(), FULL);
        x.drop(59);
        Check.due("it is due no more", x.tick(), 0);
        Check.due("TERMS", x.deliver(0), 1);
        x.drop(0);
        Check.due("the server's flight", x.tick(), 9);
        Check.due("then the next ACK", x.tick(), 1);
        Check.due("lost", x.lost(), 8);
        x.drop(0);
        x.drop(0);
        x.deliver(0);
        Drive.ticks(x, 2);
        Check.due("the numbers of both were used", x.record(x.waiting() - 1), 120002);
    }

    private static void dataIsLost() {
        for (int side = 0; side < 2; side++) {
            Counted x = Drive.through(5, 8);
            int first = side == 0 ? 230000 : 1230001;
            Drive.sendMany(x, side, FULL - 1);
            Check.due("with 59 there", x.waiting(), FULL - 1);
            Check.yes("one more", x.send(side, 7));
            Check.due("comes in", x.record(59), first + 59);
            Check.due("none is lost", x.lost(), 0);
            Check.yes("with 60 there", x.send(side, 8));
            Check.due("one is lost", x.lost(), 1);
            Check.due("waiting", x.waiting(), FULL);
            Check.due("the last one stays", x.record(59), first + 59);
            x.drop(0);
            Check.yes("then there is room", x.send(side, 9));
            Check.due("the lost one's number is used", x.record(59), first + 61);
            Check.due("one is lost", x.lost(), 1);
        }
    }

    private static void anAckHasEightNamesAtMost() {
        for (int pieces = 1; pieces <= 8; pieces++) {
            Counted x = Drive.flightSent(31, 8);
            for (int i = 0; i < pieces; i++) {
                x.deliver(0);
            }
            Drive.ticks(x, 2);
            Check.due("names of " + pieces, x.content(x.waiting() - 1), pieces);
        }
        Counted x = Drive.flightSent(31, 8);
        x.drop(8);
        Drive.ticks(x, 4);
        x.drop(8);
        for (int i = 0; i < 12; i++) {
            Check.due("piece " + i, x.deliver(0), 1);
            Check.due("the client waits", x.state(0), 2);
        }
        Drive.ticks(x, 2);
        Check.due("twelve were noted", x.content(x.waiting() - 1), 8);
    }

    private static void eachEpochIsNumberedFromZero() {
        Counted x = new Counted(0, 24);
        x.start();
        Check.due("the client in epoch 0", x.record(0), 0);
        Drive.ticks(x, 4);
        Check.due("the client in epoch 0", x.record(1), 1);
        x.deliver(0);
        x.deliver(1);
        Check.due("the client in epoch 0", x.record(1), 2);
        x.deliver(1);
        Check.due("the server in epoch 2", x.record(2), 1020000);
        Check.due("the server in epoch 2", x.record(4), 1020002);
        x.deliver(1);
        Drive.ticks(x, 2);
        Check.due("the client in epoch 2, an ACK", x.record(4), 120000);
        x.deliver(1);
        x.deliver(1);
        x.deliver(1);
        Check.due("the client in epoch 2, its DONE", x.record(2), 20001);
        x.send(0, 5);
        x.send(0, 6);
        Check.due("the client in epoch 3", x.record(3), 230000);
        Check.due("the client in epoch 3", x.record(4), 230001);
        x.deliver(2);
        Check.due("the server in epoch 3, an ACK", x.record(4), 1130000);
        x.send(1, 7);
        Check.due("the server in epoch 3, DATA", x.record(5), 1230001);
        Drive.ticks(x, 4);
        Check.due("the client in epoch 2", x.record(6), 20002);
        x.deliver(6);
        Check.due("the server in epoch 3, an ACK", x.record(6), 1130002);
    }

    private static void nothingElseUsesANumber() {
        Counted x = Drive.flightSent(5, 8);
        x.send(0, 1);
        x.send(1, 1);
        Drive.deliverWhileWaiting(x);
        x.send(1, 1);
        x.deliver(0);
        x.send(-1, 1);
        x.send(2, 1);
        x.send(0, 1);
        Check.due("the client's first", x.record(1), 230000);
        x.copy(1);
        x.copy(1);
        x.start();
        x.send(0, 1);
        Check.due("the client's second", x.record(4), 230001);
        x.send(1, 1);
        Check.due("the server's second, behind its ACK", x.record(5), 1230001);
    }

    private static void aRetryHasTheNumberOfItsHello() {
        Counted x = new Counted(5, 8);
        x.start();
        Drive.ticks(x, 124);
        Check.due("HELLO seven times", x.waiting(), 7);
        for (int i = 0; i < 7; i++) {
            x.copy(i);
        }
        for (int number = 6; number >= 0; number--) {
            Check.due("HELLO " + number, x.deliver(number), 0);
            Check.due("RETRY " + number, x.record(13), 1000000 + number);
        }
        x.deliver(13);
        Check.due("HELLO AGAIN", x.record(13), 7);
        x.deliver(13);
        Check.due("ANSWER", x.record(13), 1000007);
        Check.due("HELLO 3 in state 1", x.deliver(3), 1);
        Check.due("RETRY 3", x.record(x.waiting() - 1), 1000003);
        Check.due("HELLO 0 in state 1", x.deliver(0), 1);
        Check.due("RETRY 0", x.record(x.waiting() - 1), 1000000);
        Drive.ticks(x, 4);
        Check.due("the server's own numbers go on", x.record(x.waiting() - 6), 1000008);
    }

    private static void theServerGoesOnFromTheHelloAgain() {
        Counted x = Drive.helloAgainSent(0, 24);
        Drive.ticks(x, 12);
        Check.due("HELLO AGAIN 1", x.record(0), 1);
        Check.due("HELLO AGAIN 3", x.record(2), 3);
        x.deliver(1);
        Check.due("ANSWER has the number of the one that was taken", x.record(2), 1000002);
        Check.due("HELLO AGAIN 3 is let in", x.deliver(1), 1);
        Check.due("HELLO AGAIN 1 is let in", x.deliver(0), 1);
        Check.due("four there", x.waiting(), 4);
        Drive.ticks(x, 4);
        Check.due("ANSWER goes on from there", x.record(4), 1000003);
        Drive.ticks(x, 8);
        Check.due("and so on", x.record(8), 1000004);
    }

    private static void eachMessageHasItsEpoch() {
        Counted x = new Counted(0, 24);
        x.start();
        epochs("HELLO", x, 0);
        x.deliver(0);
        epochs("RETRY", x, 0);
        x.deliver(0);
        epochs("HELLO AGAIN", x, 0);
        x.deliver(0);
        epochs("the server's flight", x, 0, 2, 2, 2);
        Drive.deliverWhileWaiting(x);
        epochs("the client's DONE", x, 2);
        x.send(0, 1);
        epochs("DATA of the client", x, 2, 3);
        x.deliver(0);
        x.send(1, 1);
        epochs("an ACK and DATA of the server", x, 3, 3, 3);
    }

    private static void epochs(String what, Counted x, int... due) {
        Check.due(what + ", records", x.waiting(), due.length);
        for (int i = 0; i < due.length; i++) {
            Check.due(what + ", " + i, x.record(i) / 10000 % 10, due[i]);
        }
    }

    private static void anAckGoesInTheGreatestEpoch() {
        Counted x = Drive.flightSent(0, 24);
        x.deliver(0);
        Drive.ticks(x, 2);
        Check.due("the client's in epoch 2, though it names one in epoch 0", x.record(3), 120000);
        x = Drive.clientDoneSent(0, 24);
        x.deliver(0);
        Check.due("the server's in epoch 3, though it names one in epoch 2", x.record(0), 1130000);
        Drive.ticks(x, 4);
        x.deliver(1);
        Check.due("so is the next", x.record(1), 1130001);
    }

    private static void theClientWritesThreeWithItsDone() {
        Counted x = Drive.flightSent(31, 8);
        for (int i = 0; i < 8; i++) {
            Check.no("before piece " + i, x.send(0, i));
            x.deliver(0);
        }
        Check.no("before the last piece", x.send(0, 8));
        x.deliver(0);
        Check.yes("when it has sent its DONE", x.send(0, 9));
        Check.due("in epoch 3", x.record(1), 230000);
    }

    private static void theClientReadsTwoWithTheAnswer() {
        Counted x = Drive.flightSent(0, 24);
        for (int i = 0; i < 4; i++) {
            x.copy(i);
        }
        Check.due("TERMS before", x.deliver(1), 0);
        Check.due("PROOF before", x.deliver(1), 0);
        Check.due("the server's DONE before", x.deliver(1), 0);
        x.spoil(0);
        Check.due("a spoilt ANSWER", x.deliver(0), 0);
        Check.due("TERMS after that", x.deliver(1), 0);
        Check.due("ANSWER", x.deliver(0), 1);
        Check.due("PROOF", x.deliver(0), 1);
        Check.due("the server's DONE", x.deliver(0), 1);
        Check.due("the client waits for TERMS", x.state(0), 2);
    }

    private static void theClientReadsOnInLesserEpochs() {
        Counted x = new Counted(0, 24);
        x.start();
        Drive.ticks(x, 4);
        x.deliver(0);
        x.deliver(0);
        x.deliver(0);
        x.deliver(1);
        Drive.ticks(x, 4);
        for (int i = 0; i < 4; i++) {
            x.deliver(1);
        }
        Check.due("state 3", x.state(0), 3);
        Check.due("RETRY in epoch 0", x.deliver(0), 1);
        x.drop(0);
        Check.due("ANSWER in epoch 0", x.deliver(0), 1);
        Check.due("TERMS in epoch 2", x.deliver(0), 1);
    }

    private static void theServerReadsThreeWithTheClientsDone() {
        Counted x = Drive.clientDoneSent(0, 24);
        x.send(0, 11);
        x.copy(1);
        Check.due("DATA before", x.deliver(1), 0);
        Check.no("the server's DATA before", x.send(1, 12));
        x.copy(0);
        x.spoil(0);
        Check.due("a spoilt DONE", x.deliver(0), 0);
        x.copy(0);
        Check.due("DATA after that", x.deliver(0), 0);
        Check.due("DONE", x.deliver(0), 1);
        Check.due("DATA that was thrown away before", x.deliver(0), 1);
        Check.due("its value", x.value(1, 0), 11);
        Check.yes("the server's DATA", x.send(1, 12));
    }

    private static void theServerReadsOnInLesserEpochs() {
        Counted x = new Counted(0, 24);
        x.start();
        x.copy(0);
        x.deliver(0);
        x.deliver(1);
        x.deliver(1);
        x.copy(1);
        x.deliver(1);
        Drive.ticks(x, 2);
        for (int i = 0; i < 3; i++) {
            x.deliver(1);
        }
        Check.due("the client's DONE", x.deliver(3), 1);
        Check.due("state 2", x.state(1), 2);
        Check.due("HELLO in epoch 0", x.deliver(0), 1);
        Check.due("its RETRY in epoch 0", x.record(3), 1000000);
        Check.due("the client's ACK in epoch 2", x.deliver(1), 1);
    }
}
