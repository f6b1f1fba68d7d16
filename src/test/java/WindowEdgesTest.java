/** The sentences on windows, each edge with a test of its own. */
public final class WindowEdgesTest {
    public static void main(String[] args) {
        Check.part("A record is OLD if its number was let in", WindowEdgesTest::whatWasLetInIsOld);
        Check.part("less than the greatest that was let in by 16 or more (15 is less)",
                WindowEdgesTest::fifteenLessIsNotOld);
        Check.part("less than the greatest that was let in by 16 or more (epoch 3)",
                WindowEdgesTest::sixteenLessIsOldInEpoch3);
        Check.part("less than the greatest that was let in by 16 or more (epoch 2 at the client)",
                WindowEdgesTest::sixteenLessIsOldInEpoch2AtTheClient);
        Check.part("less than the greatest that was let in by 16 or more (epoch 2 at the server)",
                WindowEdgesTest::sixteenLessIsOldInEpoch2AtTheServer);
        Check.part("less than the greatest that was let in by 16 or more (epoch 0 at the client)",
                WindowEdgesTest::sixteenLessIsOldInEpoch0AtTheClient);
        Check.part("less than the greatest that was let in by 16 or more (epoch 0 at the server, where 13 is the most)",
                WindowEdgesTest::thirteenLessIsNotOldInEpoch0AtTheServer);
        Check.part("For each epoch that it reads a side knows which numbers it has let in (after a leap)",
                WindowEdgesTest::leapsForgetNothingThatIsNear);
        Check.part("less than the greatest that was let in by 16 or more (a leap over lost ones)",
                WindowEdgesTest::aLeapOverLostRecords);
        Check.part("It is thrown away, changing nothing more, if it is spoilt (nor is its number let in)",
                WindowEdgesTest::whatIsThrownAwayIsNotLetIn);
        Check.part("It is thrown away, changing nothing more, if .. it does not read the epoch (nor is its number let "
                + "in)", WindowEdgesTest::whatIsNotReadIsNotLetIn);
        Check.part("Record i is taken out of the net (and handed to nobody)", WindowEdgesTest::whatIsDroppedIsNotLetIn);
        Check.part("(but the server in state 0 lets nothing in but a HELLO AGAIN)",
                WindowEdgesTest::aHelloInState0IsNotLetIn);
        Check.part("Whatever else is let in has no effect (but its number is let in)",
                WindowEdgesTest::whatHasNoEffectIsLetIn);
        Check.part("For each epoch that it reads a side knows which numbers it has let in",
                WindowEdgesTest::eachEpochHasItsOwn);
        Check.part("a side knows which numbers it has let in", WindowEdgesTest::eachSideHasItsOwn);
        Check.end();
    }

    /** Both are through, and this side has sent DATA with the numbers from first to last. */
    private static Counted dataSent(int side, int first, int last) {
        Counted x = Drive.through(3, 8);
        for (int number = side; number <= last; number++) {
            x.send(side, 100 + number);
        }
        for (int number = side; number < first; number++) {
            x.drop(0);
        }
        return x;
    }

    private static void whatWasLetInIsOld() {
        for (int side = 0; side < 2; side++) {
            Counted x = dataSent(side, 1, 16);
            for (int i = 0; i < 16; i++) {
                x.copy(i);
            }
            for (int i = 0; i < 16; i++) {
                Check.due("number " + (1 + i), x.deliver(0), 1);
            }
            x.copy(15);
            x.copy(0);
            for (int i = 0; i < 16; i++) {
                Check.due("number " + (1 + i) + " once more", x.deliver(0), 0);
            }
            Check.due("the last for the third time", x.deliver(0), 0);
            Check.due("the first for the third time", x.deliver(0), 0);
            Check.due("received", x.received(1 - side), 16);
        }
    }

    private static void fifteenLessIsNotOld() {
        for (int side = 0; side < 2; side++) {
            Counted x = dataSent(side, 1, 16);
            x.copy(0);
            Check.due("number 16", x.deliver(15), 1);
            Check.due("number 1", x.deliver(0), 1);
            Check.due("number 1 once more", x.deliver(x.waiting() - 1), 0);
            for (int number = 2; number < 16; number++) {
                Check.due("number " + number, x.deliver(0), 1);
            }
            Check.due("the second value", x.value(1 - side, 1), 101);
        }
    }

    private static void sixteenLessIsOldInEpoch3() {
        for (int side = 0; side < 2; side++) {
            Counted x = dataSent(side, 1, 40);
            Check.due("number 20", x.deliver(19), 1);
            Check.due("number 3, 17 less", x.deliver(2), 0);
            Check.due("number 4, 16 less", x.deliver(2), 0);
            Check.due("number 5, 15 less", x.deliver(2), 1);
            Check.due("number 1, 19 less", x.deliver(0), 0);
            x.copy(1);
            Check.due("number 22 moves the window by two", x.deliver(x.waiting() - 20), 1);
            Check.due("number 6, 16 less now", x.deliver(1), 0);
            Check.due("number 6 once more", x.deliver(x.waiting() - 1), 0);
            Check.due("number 7, 15 less now", x.deliver(1), 1);
            Check.due("received", x.received(1 - side), 4);
        }
    }

    private static void sixteenLessIsOldInEpoch2AtTheClient() {
        int[][] due = {{15, 16, 1, 1, 1}, {16, 19, 0, 1, 1}, {17, 20, 0, 0, 1}};
        for (int[] row : due) {
            Counted x = Drive.flightSent(31, 8);
            Drive.ticks(x, 4);
            x.drop(9);
            Drive.ticks(x, 8);
            Check.due("the first TERMS", x.record(1), 1020000);
            Check.due("the third TERMS", x.record(20), 1020016);
            Check.due("ANSWER", x.deliver(0), 1);
            Check.due("the greatest", x.record(row[1]), 1020000 + row[0]);
            Check.due("the greatest", x.deliver(row[1]), 1);
            for (int number = 0; number < 3; number++) {
                Check.due("number " + number + " after " + row[0], x.deliver(0), row[2 + number]);
            }
        }
    }

    /** The client's ACKs 0 to 16 are under way, number 0 first of all; ACK 16 is the last record. */
    private static Counted seventeenAcksSent() {
        Counted x = Drive.flightSent(31, 8);
        x.drop(8);
        for (int i = 0; i < 17; i++) {
            x.deliver(i < 8 ? 0 : i < 16 ? 2 : 7);
            x.tick();
            x.tick();
        }
        return x;
    }

    private static void sixteenLessIsOldInEpoch2AtTheServer() {
        Counted x = seventeenAcksSent();
        int last = x.waiting() - 1;
        Check.due("ACK 0", x.record(0), 120000);
        Check.due("ACK 16", x.record(last), 120016);
        Check.due("ACK 16", x.deliver(last), 1);
        Check.due("ACK 0", x.deliver(0), 0);
        Check.due("ACK 1", x.deliver(0), 1);
        x = seventeenAcksSent();
        last = x.waiting() - 2;
        for (int i = 0; i < 12 && x.record(last) != 120015; i++) {
            last--;
        }
        Check.due("ACK 15", x.deliver(last), 1);
        Check.due("ACK 0", x.deliver(0), 1);
        Check.due("ACK 16", x.deliver(x.waiting() - 1), 1);
    }

    /** RETRY 0 and 1 lie at 4 and 5; the client waits, and ANSWER 13, 14, 15 and 16 lie at 12, 16, 20 and 24. */
    private static Counted sixteenAnswersSent() {
        Counted x = new Counted(0, 24);
        x.start();
        Drive.ticks(x, 124);
        x.deliver(0);
        x.deliver(0);
        x.deliver(4);
        x.deliver(6);
        Drive.ticks(x, 124);
        x.deliver(12);
        Drive.ticks(x, 28);
        return x;
    }

    private static void sixteenLessIsOldInEpoch0AtTheClient() {
        Counted x = sixteenAnswersSent();
        Check.due("RETRY 0", x.record(4), 1000000);
        Check.due("RETRY 1", x.record(5), 1000001);
        Check.due("ANSWER 16", x.record(24), 1000016);
        Check.due("ANSWER 16", x.deliver(24), 1);
        Check.due("RETRY 0", x.deliver(4), 0);
        Check.due("RETRY 1", x.deliver(4), 1);
        x = sixteenAnswersSent();
        Check.due("ANSWER 15", x.record(20), 1000015);
        Check.due("ANSWER 15", x.deliver(20), 1);
        Check.due("RETRY 0", x.deliver(4), 1);
    }

    private static void thirteenLessIsNotOldInEpoch0AtTheServer() {
        Counted x = new Counted(0, 24);
        x.start();
        Drive.ticks(x, 124);
        x.copy(0);
        x.deliver(6);
        x.deliver(7);
        Drive.ticks(x, 124);
        Check.due("the last HELLO AGAIN", x.record(x.waiting() - 1), 13);
        x.deliver(x.waiting() - 1);
        Check.due("HELLO 0", x.deliver(0), 1);
        Check.due("HELLO 0 once more", x.deliver(5), 0);
        Check.due("HELLO 1", x.deliver(0), 1);
    }

    private static void leapsForgetNothingThatIsNear() {
        for (int leap : new int[] {1, 2, 14, 15, 16, 17, 18, 30, 31, 32, 33, 34, 47, 48, 49, 57}) {
            Counted x = dataSent(0, 0, leap);
            x.copy(0);
            x.copy(leap);
            Check.due("number 0", x.deliver(0), 1);
            Check.due("number " + leap, x.deliver(leap - 1), 1);
            Check.due("number " + leap + " once more", x.deliver(x.waiting() - 1), 0);
            Check.due("number 0 once more", x.deliver(x.waiting() - 1), 0);
            for (int number = 1; number < leap; number++) {
                x.copy(0);
                String what = "number " + number + " after " + leap;
                Check.due(what, x.deliver(0), leap - number < 16 ? 1 : 0);
                Check.due(what + ", once more", x.deliver(x.waiting() - 1), 0);
            }
        }
    }

    private static void aLeapOverLostRecords() {
        for (int lost : new int[] {3, 4, 5, 63, 64, 65, 127, 128, 129, 255, 256}) {
            Counted x = Drive.through(3, 8);
            Drive.sendMany(x, 0, 60 + lost);
            x.drop(0);
            x.send(0, 7);
            Check.due("the greatest", x.record(59), 230060 + lost);
            Check.due("number 48", x.deliver(47), 1);
            Check.due("the greatest", x.deliver(58), 1);
            Check.due("number 59", x.deliver(57), lost + 1 < 16 ? 1 : 0);
            Check.due("number 49", x.deliver(47), lost + 11 < 16 ? 1 : 0);
            Check.due("the last value", x.value(1, 1), 7);
        }
    }

    private static void whatIsThrownAwayIsNotLetIn() {
        for (int side = 0; side < 2; side++) {
            Counted x = dataSent(side, 1, 30);
            x.copy(29);
            x.spoil(29);
            Check.due("number 30, spoilt", x.deliver(29), 0);
            Check.due("number 1", x.deliver(0), 1);
            Check.due("number 30, not spoilt", x.deliver(x.waiting() - 1), 1);
            Check.due("number 2", x.deliver(0), 0);
            x.copy(20);
            x.spoil(20);
            Check.due("number 23, spoilt", x.deliver(20), 0);
            Check.due("number 23, not spoilt", x.deliver(x.waiting() - 1), 1);
        }
    }

    private static void whatIsNotReadIsNotLetIn() {
        Counted x = Drive.clientDoneSent(3, 8);
        Drive.sendMany(x, 0, 30);
        x.copy(30);
        Check.due("number 29 before DONE", x.deliver(30), 0);
        Check.due("DONE", x.deliver(0), 1);
        Check.due("number 0", x.deliver(0), 1);
        Check.due("number 29", x.deliver(28), 1);
        Check.due("number 1", x.deliver(0), 0);
        x = Drive.flightSent(0, 8);
        x.copy(1);
        Check.due("TERMS before ANSWER", x.deliver(1), 0);
        Check.due("ANSWER", x.deliver(0), 1);
        Check.due("TERMS", x.deliver(x.waiting() - 1), 1);
    }

    private static void whatIsDroppedIsNotLetIn() {
        Counted x = dataSent(0, 0, 30);
        x.copy(30);
        x.drop(30);
        Check.due("number 0", x.deliver(0), 1);
        Check.due("number 30", x.deliver(29), 1);
    }

    private static void aHelloInState0IsNotLetIn() {
        Counted x = new Counted(0, 24);
        x.start();
        x.copy(0);
        x.copy(0);
        x.copy(0);
        Check.due("HELLO", x.deliver(0), 0);
        Check.due("HELLO", x.deliver(0), 0);
        Check.due("both are answered", x.waiting(), 4);
        Check.due("RETRY", x.deliver(2), 1);
        Check.due("HELLO AGAIN", x.deliver(3), 1);
        Check.due("HELLO in state 1", x.deliver(0), 1);
        Check.due("HELLO once more", x.deliver(0), 0);
    }

    private static void whatHasNoEffectIsLetIn() {
        Counted x = new Counted(0, 24);
        x.start();
        Drive.ticks(x, 4);
        x.deliver(0);
        x.deliver(0);
        x.copy(1);
        x.deliver(0);
        Drive.ticks(x, 4);
        Check.due("RETRY 1 in state 2", x.deliver(0), 1);
        Check.due("RETRY 1 once more", x.deliver(0), 0);
        x.copy(1);
        Check.due("HELLO AGAIN 2", x.deliver(0), 1);
        Check.due("HELLO AGAIN 3 in state 1", x.deliver(0), 1);
        Check.due("HELLO AGAIN 3 once more", x.deliver(0), 0);
        x = dataSent(0, 0, 59);
        for (int i = 0; i < 60; i++) {
            x.deliver(0);
        }
        x.send(0, 60);
        x.copy(0);
        Check.due("the value that is not kept", x.deliver(0), 1);
        Check.due("once more", x.deliver(0), 0);
    }

    private static void eachEpochHasItsOwn() {
        Counted x = Drive.clientDoneSent(3, 8);
        Drive.sendMany(x, 0, 40);
        Check.due("DONE 0 in epoch 2", x.deliver(0), 1);
        Check.due("DATA 0 in epoch 3", x.deliver(0), 1);
        Check.due("DATA 39 in epoch 3", x.deliver(38), 1);
        Drive.ticks(x, 4);
        Check.due("DONE 1 in epoch 2", x.record(x.waiting() - 1), 20001);
        Check.due("DONE 1 in epoch 2", x.deliver(x.waiting() - 1), 1);
        Check.due("DATA 38 in epoch 3", x.deliver(37), 1);
        x = Drive.flightSent(31, 8);
        Check.due("ANSWER 1 in epoch 0", x.deliver(0), 1);
        Check.due("PROOF 1 in epoch 2", x.deliver(1), 1);
        Check.due("TERMS 0 in epoch 2", x.deliver(0), 1);
    }

    private static void eachSideHasItsOwn() {
        Counted x = Drive.through(3, 8);
        Drive.sendMany(x, 0, 29);
        Drive.sendMany(x, 1, 28);
        Check.due("number 28 of the client", x.deliver(28), 1);
        Check.due("number 1 of the server", x.deliver(28), 1);
        Check.due("number 28 of the server", x.deliver(x.waiting() - 1), 1);
        Check.due("number 27 of the client", x.deliver(27), 1);
    }
}
