import java.util.ArrayList;
import java.util.List;

/** The sentences on delivering that name an edge, each with a test of its own. */
public final class DeliverEdgesTest {
    private static final int FAILED = 5;
    private static final int[] WAITS = {4, 8, 16, 32, 32, 32};

    public static void main(String[] args) {
        Check.part("It is thrown away, changing nothing more, if it is spoilt",
                DeliverEdgesTest::aSpoiltRecordChangesNothing);
        Check.part("It is thrown away, changing nothing more, if .. the side has failed (the client)",
                DeliverEdgesTest::aFailedClientLetsNothingIn);
        Check.part("It is thrown away, changing nothing more, if .. the side has failed (the server)",
                DeliverEdgesTest::aFailedServerLetsNothingIn);
        Check.part("It is thrown away, changing nothing more, if .. it does not read the epoch",
                DeliverEdgesTest::anEpochThatIsNotReadChangesNothing);
        Check.part("It is thrown away, changing nothing more, if .. it is old",
                DeliverEdgesTest::anOldRecordChangesNothing);
        Check.part("(but the server in state 0 lets nothing in but a HELLO AGAIN)",
                DeliverEdgesTest::theNewServerLetsInAHelloAgainAlone);
        Check.part("A HELLO at the server, in any state: RETRY is sent", DeliverEdgesTest::aHelloIsAnsweredInAnyState);
        Check.part("RETRY is sent; nothing of it is kept.", DeliverEdgesTest::nothingOfAHelloIsKept);
        Check.part("A HELLO AGAIN at the server in state 0 ..: it is taken, the flight is sent, the side cares for "
                + "it: state 1.", DeliverEdgesTest::aHelloAgainIsTakenInState0);
        Check.part("Whatever else is let in has no effect. (a HELLO AGAIN in state 1 and 2)",
                DeliverEdgesTest::aHelloAgainHasNoEffectLater);
        Check.part("A RETRY in the client's state 1: it is taken; HELLO AGAIN is sent, it cares for that flight in "
                + "place of the other: state 2.", DeliverEdgesTest::aRetryIsTakenInState1);
        Check.part("Whatever else is let in has no effect. (a RETRY in the client's state 2, 3 and 4)",
                DeliverEdgesTest::aRetryHasNoEffectLater);
        Check.part("A fragment .. in the client's state 2: the client cares for its HELLO AGAIN no more (it is "
                + "answered)", DeliverEdgesTest::theFirstFragmentAnswersTheHelloAgain);
        Check.part("its bytes are put to those of its message that are there already",
                DeliverEdgesTest::bytesComeInAnyOrder);
        Check.part("its bytes are put to those of its message that are there already (the same bytes once more)",
                DeliverEdgesTest::bytesThatAreThereAlreadyCountOnce);
        Check.part("Then, as long as the next message of the flight that is not taken is whole, it is taken.",
                DeliverEdgesTest::whatIsWholeIsTakenInOrder);
        Check.part("When the DONE is taken .., the client's DONE is sent, it cares for that in place of the other: "
                + "state 3.", DeliverEdgesTest::theDoneIsAnswered);
        Check.part("If the flight is not whole, an ACK is due 2 ticks later",
                DeliverEdgesTest::anAckIsDueTwoTicksLater);
        Check.part("an ACK is due 2 ticks later (in place of one that is due)", DeliverEdgesTest::aDueAckIsPutOff);
        Check.part("its record is NOTED (that of a message which is taken, too)",
                DeliverEdgesTest::aPieceOfATakenMessageIsNoted);
        Check.part("Whatever else is let in has no effect. (fragments in the client's state 3 and 4)",
                DeliverEdgesTest::fragmentsHaveNoEffectLater);
        Check.part("The client's DONE at the server in state 1: it is taken; its record is noted; the server cares "
                + "for nothing any more: state 2; and an ACK is sent.",
                DeliverEdgesTest::theClientsDoneIsTakenInState1);
        Check.part("In state 2: its record is noted, and an ACK is sent.",
                DeliverEdgesTest::theClientsDoneIsAcknowledgedInState2);
        Check.part("An ACK: each open fragment .., that was sent in a record that is named, is open no more.",
                DeliverEdgesTest::anAckClosesWhatWasSentInNamedRecords);
        Check.part("each open fragment .., that was sent in a record that is named (each time that it was sent)",
                DeliverEdgesTest::anAckOfAnySendingCloses);
        Check.part("An ACK: each open fragment of the flight .. is open no more. (one that names none)",
                DeliverEdgesTest::anAckThatClosesNothing);
        Check.part("If that closes the last one: the client in state 3 has state 4.",
                DeliverEdgesTest::theLastFragmentIsClosed);
        Check.part("Whatever else is let in has no effect. (an ACK at a side that cares for nothing)",
                DeliverEdgesTest::acksHaveNoEffectLater);
        Check.part("DATA: the value is put to those that the side received (60 at most; more are not kept).",
                DeliverEdgesTest::sixtyValuesAreKept);
        Check.part("An ACK that is sent names the records that this side noted so far",
                DeliverEdgesTest::anAckNamesAllThatWasNoted);
        Check.part("the latest first, 8 at most", DeliverEdgesTest::anAckNamesTheLatestEight);
        Check.end();
    }

    private static Counted started() {
        Counted x = new Counted(0, 24);
        x.start();
        return x;
    }

    private static Counted retrySent() {
        Counted x = started();
        x.deliver(0);
        return x;
    }

    private static Counted helloAgainSent() {
        return Drive.helloAgainSent(0, 24);
    }

    private static Counted flightSent() {
        return Drive.flightSent(0, 24);
    }

    /** The client has taken ANSWER: TERMS, PROOF, DONE and its ACK are under way. */
    private static Counted clientAckSent() {
        Counted x = flightSent();
        x.deliver(0);
        Drive.ticks(x, 2);
        return x;
    }

    private static Counted clientDoneSent() {
        return Drive.clientDoneSent(0, 24);
    }

    private static Counted serverAckSent() {
        Counted x = clientDoneSent();
        x.deliver(0);
        return x;
    }

    private static Counted dataSent(int side) {
        Counted x = Drive.through(0, 24);
        x.send(side, 77);
        return x;
    }

    /** Delivers record i to one object and drops it from the other: if it is thrown away they stay alike. */
    private static void isThrownAway(String what, int i, Counted one, Counted other) {
        Check.due(what, one.deliver(i), 0);
        other.drop(i);
        Twins.areAlike(one, other);
    }

    /** Delivers record i to one object and drops it from the other: if it has no effect they stay alike. */
    private static void hasNoEffect(String what, int i, Counted one, Counted other) {
        Check.due(what, one.deliver(i), 1);
        other.drop(i);
        Twins.areAlike(one, other);
    }

    private static void spoiltIsThrownAway(String what, int i, Counted one, Counted other) {
        one.spoil(i);
        isThrownAway(what, i, one, other);
    }

    private static void aSpoiltRecordChangesNothing() {
        spoiltIsThrownAway("HELLO", 0, started(), started());
        spoiltIsThrownAway("RETRY", 0, retrySent(), retrySent());
        spoiltIsThrownAway("HELLO AGAIN", 0, helloAgainSent(), helloAgainSent());
        spoiltIsThrownAway("ANSWER", 0, flightSent(), flightSent());
        spoiltIsThrownAway("TERMS", 0, clientAckSent(), clientAckSent());
        spoiltIsThrownAway("the client's ACK", 3, clientAckSent(), clientAckSent());
        spoiltIsThrownAway("the client's DONE", 0, clientDoneSent(), clientDoneSent());
        spoiltIsThrownAway("the server's ACK", 0, serverAckSent(), serverAckSent());
        spoiltIsThrownAway("DATA of the client", 0, dataSent(0), dataSent(0));
        spoiltIsThrownAway("DATA of the server", 0, dataSent(1), dataSent(1));
    }

    private static Counted untilItFails(Counted x) {
        Drive.ticks(x, 156);
        return x;
    }

    private static void aFailedClientLetsNothingIn() {
        isThrownAway("RETRY", 0, untilItFails(retrySent()), untilItFails(retrySent()));
        isThrownAway("ANSWER", 0, untilItFails(flightSent()), untilItFails(flightSent()));
        isThrownAway("an ACK", 0, untilItFails(serverAckSent()), untilItFails(serverAckSent()));
        Counted x = serverAckSent();
        x.send(1, 5);
        untilItFails(x);
        Check.due("state", x.state(0), FAILED);
        Check.due("DATA", x.deliver(1), 0);
        Check.due("received", x.received(0), 0);
        Check.due("the ACK", x.deliver(0), 0);
        Check.due("state", x.state(0), FAILED);
    }

    /** A HELLO, a HELLO AGAIN, an ACK of the client and its DONE lie first in the net; the server has failed. */
    private static Counted serverFailed() {
        Counted x = started();
        x.copy(0);
        x.deliver(0);
        x.deliver(1);
        Drive.ticks(x, 3);
        x.deliver(1);
        x.tick();
        x.deliver(1);
        Drive.ticks(x, 2);
        for (int i = 0; i < 3; i++) {
            x.deliver(1);
        }
        Drive.ticks(x, 155);
        return x;
    }

    private static void aFailedServerLetsNothingIn() {
        Counted x = serverFailed();
        Check.due("failed", x.state(1), FAILED);
        Check.due("HELLO", x.content(0), 8);
        Check.due("HELLO AGAIN", x.record(1), 2);
        Check.due("an ACK", x.record(2), 120000);
        Check.due("DONE", x.record(3), 20001);
        for (int i = 0; i < 4; i++) {
            isThrownAway("record " + i, i, serverFailed(), serverFailed());
        }
        int waiting = x.waiting();
        for (int i = 0; i < 4; i++) {
            Check.due("record " + i, x.deliver(0), 0);
        }
        Check.due("nothing is answered", x.waiting(), waiting - 4);
        Check.due("state", x.state(1), FAILED);
    }

    private static void anEpochThatIsNotReadChangesNothing() {
        for (int i = 1; i < 4; i++) {
            isThrownAway("piece " + i + " before ANSWER", i, flightSent(), flightSent());
        }
        Counted one = clientDoneSent();
        Counted other = clientDoneSent();
        one.send(0, 5);
        other.send(0, 5);
        isThrownAway("DATA before DONE", 1, one, other);
    }

    /** Record 0 is delivered, so many ticks go by, and then its copy is delivered too. */
    private static void oldIsThrownAway(String what, int ticks, Counted one, Counted other) {
        int placeOfCopy = one.waiting() - 1;
        for (Counted x : new Counted[] {one, other}) {
            x.copy(0);
            Check.due(what, x.deliver(0), 1);
            Drive.ticks(x, ticks);
        }
        isThrownAway(what + " once more, after " + ticks, placeOfCopy, one, other);
    }

    private static void anOldRecordChangesNothing() {
        for (int ticks = 0; ticks < 4; ticks++) {
            oldIsThrownAway("RETRY", ticks, retrySent(), retrySent());
            oldIsThrownAway("HELLO AGAIN", ticks, helloAgainSent(), helloAgainSent());
            oldIsThrownAway("ANSWER", ticks, flightSent(), flightSent());
            oldIsThrownAway("TERMS", ticks, clientAckSent(), clientAckSent());
            oldIsThrownAway("the client's DONE", ticks, clientDoneSent(), clientDoneSent());
            oldIsThrownAway("the server's ACK", ticks, serverAckSent(), serverAckSent());
            oldIsThrownAway("DATA of the client", ticks, dataSent(0), dataSent(0));
            oldIsThrownAway("DATA of the server", ticks, dataSent(1), dataSent(1));
        }
    }

    private static void theNewServerLetsInAHelloAgainAlone() {
        Counted x = started();
        x.copy(0);
        Check.due("HELLO", x.deliver(0), 0);
        Check.due("its copy is answered too", x.deliver(0), 0);
        Check.due("two RETRY", x.waiting(), 2);
        Check.due("state", x.state(1), 0);
        x.deliver(0);
        Check.due("HELLO AGAIN", x.deliver(1), 1);
        Check.due("state", x.state(1), 1);
    }

    /** A HELLO, record 0, that the server has not let in; it is in state 1, and the client has sent its DONE. */
    private static Counted helloLeft() {
        Counted x = started();
        x.copy(0);
        x.deliver(0);
        for (int i = 0; i < 6; i++) {
            x.deliver(1);
        }
        return x;
    }

    private static Counted helloLeftInState2() {
        Counted x = helloLeft();
        x.deliver(1);
        return x;
    }

    private static void aHelloIsAnsweredInAnyState() {
        Counted x = helloLeft();
        Check.due("state 1", x.state(1), 1);
        Check.due("is let in", x.deliver(0), 1);
        Check.due("RETRY behind the client's DONE", x.record(1), 1000000);
        Check.due("its content", x.content(1), 4);
        Check.due("its first byte", x.byteOf(1, 0), new Contents(0).retry[0] & 255);
        Check.due("the state stays", x.state(1), 1);
        x = helloLeftInState2();
        Check.due("state 2", x.state(1), 2);
        Check.due("is let in", x.deliver(0), 1);
        Check.due("RETRY behind the ACK", x.record(1), 1000000);
        Check.due("the state stays", x.state(1), 2);
    }

    private static void nothingOfAHelloIsKept() {
        Counted[][] pairs = {{started(), started()}, {helloLeft(), helloLeft()},
            {helloLeftInState2(), helloLeftInState2()}};
        for (Counted[] pair : pairs) {
            pair[0].deliver(0);
            pair[0].drop(pair[0].waiting() - 1);
            pair[1].drop(0);
            Twins.areAlike(pair[0], pair[1]);
        }
    }

    private static void aHelloAgainIsTakenInState0() {
        Counted x = helloAgainSent();
        Check.due("before", x.state(1) + x.open(1), 0);
        Check.due("it is let in", x.deliver(0), 1);
        Check.due("the flight", x.waiting(), 4);
        Check.due("open", x.open(1), 4);
        Check.due("state", x.state(1), 1);
    }

    /** HELLO AGAIN 1 and 3 lie at 0 and 1, and the server has taken number 2. */
    private static Counted helloAgainsLeft() {
        Counted x = helloAgainSent();
        Drive.ticks(x, 12);
        x.deliver(1);
        Drive.ticks(x, 3);
        return x;
    }

    private static Counted helloAgainsLeftInState2() {
        Counted x = helloAgainsLeft();
        for (int i = 0; i < 5; i++) {
            x.deliver(2);
        }
        return x;
    }

    private static void aHelloAgainHasNoEffectLater() {
        for (int i = 0; i < 2; i++) {
            hasNoEffect("state 1, record " + i, i, helloAgainsLeft(), helloAgainsLeft());
            Counted x = helloAgainsLeftInState2();
            Check.due("state 2", x.state(1), 2);
            hasNoEffect("state 2, record " + i, i, x, helloAgainsLeftInState2());
        }
    }

    private static void aRetryIsTakenInState1() {
        Counted x = retrySent();
        Check.due("before", x.state(0), 1);
        Check.due("it is let in", x.deliver(0), 1);
        Check.due("HELLO AGAIN", x.content(0), 10008);
        Check.due("alone", x.waiting(), 1);
        Check.due("open", x.open(0), 1);
        Check.due("state", x.state(0), 2);
    }

    /** RETRY 1 is record 0; the client has taken RETRY 0 and is in that state, near to the end of a wait. */
    private static Counted retryLeft(int state) {
        Counted x = started();
        Drive.ticks(x, 4);
        x.deliver(0);
        x.deliver(0);
        x.deliver(0);
        int[] deliveries = {0, 0, 0, 5, 7};
        for (int i = 0; i < deliveries[state]; i++) {
            x.deliver(1);
        }
        Drive.ticks(x, 3);
        return x;
    }

    private static void aRetryHasNoEffectLater() {
        for (int state = 2; state <= 4; state++) {
            Counted x = retryLeft(state);
            Check.due("state", x.state(0), state);
            hasNoEffect("RETRY 1 in state " + state, 0, x, retryLeft(state));
        }
    }

    private static void theFirstFragmentAnswersTheHelloAgain() {
        Counted x = flightSent();
        x.deliver(2);
        Check.due("one that is thrown away does not answer", x.open(0), 1);
        x.deliver(0);
        Check.due("ANSWER does", x.open(0), 0);
        Check.due("state", x.state(0), 2);
        Check.due("an ACK and the server's flight", Drive.ticks(x, 4), 5);
        Drive.ticks(x, 200);
        Check.due("the client does not fail", x.state(0), 2);
    }

    private static void bytesComeInAnyOrder() {
        int[] lengths = {8, 8, 8, 8, 8, 3};
        for (int order = 0; order < 720; order++) {
            Counted x = Drive.flightSent(31, 8);
            x.deliver(0);
            x.deliver(0);
            List<Integer> left = new ArrayList<>(List.of(0, 1, 2, 3, 4, 5));
            int kept = 0;
            int code = order;
            for (int n = 6; n > 0; n--) {
                int place = code % n;
                code /= n;
                kept += lengths[left.remove(place)];
                x.deliver(place);
                Check.due("order " + order + ", " + n + " left", x.kept(0), n == 1 ? 0 : kept);
            }
            x.deliver(0);
            Check.due("order " + order, x.state(0), 3);
            Check.due("order " + order, x.byteOf(0, 0), new Contents(31).clientDone[0] & 255);
        }
    }

    private static void bytesThatAreThereAlreadyCountOnce() {
        Counted x = Drive.flightSent(31, 8);
        Drive.ticks(x, 4);
        x.deliver(0);
        x.deliver(1);
        Check.due("a piece", x.kept(0), 8);
        Check.due("the same piece in a new record", x.content(10), 30008);
        x.deliver(10);
        Check.due("once more", x.kept(0), 8);
        x.deliver(14);
        Check.due("the short last piece", x.kept(0), 11);
        x.deliver(5);
        Check.due("once more", x.kept(0), 11);
    }

    private static void whatIsWholeIsTakenInOrder() {
        Contents c = new Contents(0);
        Counted x = flightSent();
        x.deliver(0);
        int answer = Contents.transcript(c.hello, c.retry, c.helloAgain, c.answer);
        Check.due("ANSWER is taken", x.transcript(0), answer);
        x.deliver(2);
        Check.due("DONE is whole, not the next", x.transcript(0), answer);
        Check.due("it is kept", x.kept(0), 4);
        x.deliver(1);
        Check.due("PROOF is whole, not the next", x.transcript(0), answer);
        Check.due("it is kept", x.kept(0), 16);
        Check.due("state", x.state(0), 2);
        x.deliver(0);
        Check.due("TERMS let all be taken", x.transcript(0), Contents.transcript(c.hello, c.retry, c.helloAgain,
                c.answer, c.terms, c.proof, c.serverDone, c.clientDone));
        Check.due("nothing is kept", x.kept(0), 0);
        Check.due("state", x.state(0), 3);
        x = flightSent();
        x.deliver(0);
        x.deliver(1);
        x.deliver(0);
        Check.due("TERMS let PROOF be taken", x.transcript(0),
                Contents.transcript(c.hello, c.retry, c.helloAgain, c.answer, c.terms, c.proof));
        Check.due("state", x.state(0), 2);
    }

    private static void theDoneIsAnswered() {
        Counted x = flightSent();
        for (int i = 0; i < 3; i++) {
            x.deliver(0);
            Check.due("piece " + i + ", state", x.state(0), 2);
            Check.due("piece " + i + ", nothing is sent", x.waiting(), 3 - i);
        }
        x.deliver(0);
        Check.due("DONE", x.record(0), 20000);
        Check.due("its content", x.content(0), 20004);
        Check.due("alone", x.waiting(), 1);
        Check.due("open", x.open(0), 1);
        Check.due("state", x.state(0), 3);
    }

    private static void anAckIsDueTwoTicksLater() {
        for (int before = 0; before < 4; before++) {
            Counted x = Drive.flightSent(31, 8);
            Drive.dropAllBehind(x, 1);
            Drive.ticks(x, before);
            x.deliver(0);
            int resends = before == 3 ? 9 : 0;
            Check.due("the first tick", x.tick(), resends);
            resends = before == 2 ? 9 : 0;
            Check.due("the second", x.tick(), 1 + resends);
            resends = before == 1 ? 9 : 0;
            Check.due("the third", x.tick(), resends);
        }
    }

    private static void aDueAckIsPutOff() {
        Counted x = Drive.flightSent(31, 24);
        Drive.ticks(x, 4);
        Drive.dropAllBehind(x, 4);
        for (int i = 0; i < 4; i++) {
            x.deliver(0);
            Check.due("put off by piece " + i, x.tick(), 0);
        }
        Check.due("the ACK", x.tick(), 1);
        Check.due("it names all", x.content(0), 4);
        Check.due("once", x.tick(), 0);
    }

    private static void aPieceOfATakenMessageIsNoted() {
        Counted x = flightSent();
        Drive.ticks(x, 4);
        x.deliver(0);
        Drive.ticks(x, 2);
        Check.due("one name", x.content(x.waiting() - 1), 1);
        int transcript = x.transcript(0);
        Check.due("ANSWER once more", x.content(4), 10004);
        Check.due("it is let in", x.deliver(4), 1);
        Check.due("it is not taken again", x.transcript(0), transcript);
        Check.due("nor kept", x.kept(0), 0);
        Drive.ticks(x, 2);
        Check.due("two names", x.content(x.waiting() - 1), 2);
    }

    /** ANSWER, TERMS, PROOF and DONE lie at 0 to 3 for the second time; the client is in that state. */
    private static Counted piecesLeft(int state) {
        Counted x = flightSent();
        Drive.ticks(x, 4);
        x.drop(4);
        for (int i = 0; i < 4; i++) {
            x.deliver(0);
        }
        if (state == 4) {
            x.deliver(4);
            x.deliver(4);
        }
        return x;
    }

    private static void fragmentsHaveNoEffectLater() {
        for (int state = 3; state <= 4; state++) {
            for (int i = 0; i < 4; i++) {
                Counted x = piecesLeft(state);
                Check.due("state", x.state(0), state);
                hasNoEffect("piece " + i + " in state " + state, i, x, piecesLeft(state));
            }
        }
    }

    private static void theClientsDoneIsTakenInState1() {
        Counted x = clientDoneSent();
        Check.due("before", x.open(1), 4);
        Check.due("it is let in", x.deliver(0), 1);
        Check.due("it is taken", x.transcript(1), x.transcript(0));
        Check.due("the server cares for nothing", x.open(1), 0);
        Check.due("state", x.state(1), 2);
        Check.due("an ACK", x.record(0), 1130000);
        Check.due("of one name", x.content(0), 1);
        Check.due("alone", x.waiting(), 1);
        Check.due("the client's DONE alone is sent again", Drive.ticks(x, 12), 2);
    }

    private static void theClientsDoneIsAcknowledgedInState2() {
        Counted x = clientDoneSent();
        int transcript = 0;
        for (int time = 1; time <= 7; time++) {
            Check.due("time " + time, x.deliver(0), 1);
            Check.due("its ACK", x.record(0), 1130000 + time - 1);
            Check.due("its names", x.content(0), time);
            Check.due("state", x.state(1), 2);
            transcript = time == 1 ? x.transcript(1) : transcript;
            Check.due("it is not taken again", x.transcript(1), transcript);
            x.drop(0);
            if (time < 7) {
                Check.due("the client's DONE", Drive.ticks(x, WAITS[time - 1]), 1);
            }
        }
        Check.due("the client fails", Drive.ticks(x, 32), 0);
        Check.due("its state", x.state(0), FAILED);
    }

    private static void anAckClosesWhatWasSentInNamedRecords() {
        int[][] orders = {{0}, {0, 0}, {0, 1}, {0, 7}, {0, 6, 6}, {0, 7, 6}, {0, 0, 0, 0, 0, 0, 0, 0}};
        for (int[] order : orders) {
            Counted x = Drive.flightSent(31, 8);
            List<Integer> left = new ArrayList<>(
                    List.of(10004, 20006, 30008, 30808, 31608, 32408, 33208, 34003, 40004));
            for (int place : order) {
                x.deliver(place);
                left.remove(place);
            }
            Drive.dropAll(x);
            Drive.ticks(x, 2);
            x.deliver(0);
            Check.due("open", x.open(1), left.size());
            Check.due("sent again", Drive.ticks(x, 2), left.size());
            for (int i = 0; i < left.size(); i++) {
                Check.due("piece " + i, x.content(i), left.get(i));
            }
        }
    }

    private static void anAckOfAnySendingCloses() {
        for (int time = 0; time < 7; time++) {
            Counted x = clientDoneSent();
            Drive.ticks(x, 124);
            int place = time == 0 ? 0 : 5 * time - 4;
            Check.due("DONE", x.record(place), 20000 + time);
            x.deliver(place);
            Check.due("the server's ACK names it alone", x.content(x.waiting() - 1), 1);
            x.deliver(x.waiting() - 1);
            Check.due("time " + time + " is acknowledged", x.state(0), 4);
            Check.due("open", x.open(0), 0);
        }
        for (int time = 0; time < 7; time++) {
            Counted x = flightSent();
            Drive.ticks(x, 124);
            int place = 5 * time;
            Check.due("ANSWER", x.record(place), 1000001 + time);
            x.deliver(place);
            Drive.ticks(x, 2);
            Check.due("the client's ACK names it alone", x.content(x.waiting() - 1), 1);
            x.deliver(x.waiting() - 1);
            Check.due("time " + time + " is acknowledged, nothing else is", x.open(1), 3);
        }
    }

    /** ACK 0, of ANSWER, and ACK 1, of ANSWER and TERMS, are the last two records. */
    private static Counted twoAcksSent() {
        Counted x = clientAckSent();
        x.deliver(0);
        x.drop(0);
        x.drop(0);
        Drive.ticks(x, 2);
        x.deliver(x.waiting() - 5);
        return x;
    }

    private static void anAckThatClosesNothing() {
        Counted x = twoAcksSent();
        Check.due("open", x.open(1), 2);
        Check.due("ACK 0", x.record(0), 120000);
        hasNoEffect("ACK 0 after ACK 1", 0, x, twoAcksSent());
    }

    private static void theLastFragmentIsClosed() {
        Counted x = serverAckSent();
        Check.due("before", x.state(0), 3);
        Check.due("open", x.open(0), 1);
        x.deliver(0);
        Check.due("state", x.state(0), 4);
        Check.due("open", x.open(0), 0);
        Check.yes("it still writes", x.send(0, 5));
        Check.due("nothing is sent again", Drive.ticks(x, 200), 0);
        x = clientAckSent();
        x.deliver(3);
        Check.due("the server's state stays", x.state(1), 1);
        Check.due("so does the client's", x.state(0), 2);
    }

    /** The client has state 4 by ACK 1; ACK 0 is the last record. */
    private static Counted firstAckLeft() {
        Counted x = clientDoneSent();
        Drive.ticks(x, 4);
        x.deliver(0);
        x.deliver(0);
        x.deliver(5);
        return x;
    }

    /** The server is in state 2; an ACK of the client's is record 0. */
    private static Counted clientAckLeft() {
        Counted x = clientAckSent();
        for (int i = 0; i < 3; i++) {
            x.deliver(0);
        }
        x.deliver(1);
        return x;
    }

    private static void acksHaveNoEffectLater() {
        Counted x = firstAckLeft();
        Check.due("state 4", x.state(0), 4);
        hasNoEffect("the client", 4, x, firstAckLeft());
        x = clientAckLeft();
        Check.due("state 2", x.state(1), 2);
        hasNoEffect("the server", 0, x, clientAckLeft());
    }

    private static void sixtyValuesAreKept() {
        for (int side = 0; side < 2; side++) {
            Counted x = Drive.through(0, 24);
            for (int i = 0; i < 59; i++) {
                x.send(1 - side, i + 1);
                x.deliver(0);
            }
            Check.due("59", x.received(side), 59);
            for (int i = 59; i < 63; i++) {
                x.send(1 - side, i + 1);
                Check.due("let in", x.deliver(0), 1);
                Check.due("60", x.received(side), 60);
                Check.due("the last", x.value(side, 59), 60);
                Check.due("no more", x.value(side, 60), 0);
            }
            Check.due("the first stays", x.value(side, 0), 1);
            Check.due("the other side", x.received(1 - side), 0);
        }
    }

    private static void anAckNamesAllThatWasNoted() {
        Counted x = Drive.flightSent(31, 8);
        for (int acks = 1; acks <= 3; acks++) {
            x.deliver(0);
            Drive.ticks(x, 2);
            int last = acks == 2 ? x.waiting() - 10 : x.waiting() - 1;
            Check.due("ACK " + acks, x.record(last), 120000 + acks - 1);
            Check.due("its names, those of ACKs before as well", x.content(last), acks);
        }
        x.deliver(x.waiting() - 1);
        Check.due("all three count", x.open(1), 6);
    }

    private static void anAckNamesTheLatestEight() {
        int[] open = {1, 2, 3, 3, 3};
        for (int more = 0; more < open.length; more++) {
            Counted x = Drive.flightSent(31, 8);
            Drive.ticks(x, 4);
            for (int i = 0; i < 8; i++) {
                x.deliver(0);
            }
            for (int i = 0; i < more; i++) {
                Check.due("a piece of PROOF once more", x.content(4), 30008 + 800 * i);
                Check.due("it is let in", x.deliver(4), 1);
            }
            Drive.ticks(x, 2);
            Check.due("names", x.content(x.waiting() - 1), 8);
            x.deliver(x.waiting() - 1);
            Check.due("open after " + more + " more", x.open(1), open[more]);
        }
    }
}
