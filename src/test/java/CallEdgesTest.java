/** The edges and the refused calls that promises 1 to 19 name, each with a test of its own. */
public final class CallEdgesTest {
    private static final int BAD = LossyHandshake.BAD;
    private static final int FULL = 60;
    private static final int[] NO_SIDES = {-1, 2, 3, 100, Integer.MIN_VALUE, Integer.MAX_VALUE};

    public static void main(String[] args) {
        Check.part("less than 8 counts as 8", CallEdgesTest::aSmallMtuCountsAs8);
        Check.part("more than 24 as 24", CallEdgesTest::aLargeMtuCountsAs24);
        Check.part("how many bytes a fragment has at most", CallEdgesTest::anMtuBetweenCountsAsItself);
        Check.part("Nothing was sent; the clock is 0.", CallEdgesTest::nothingWasSentAtFirst);
        Check.part("True; false, changing nothing, if its state is not 0.", CallEdgesTest::startIsRefused);
        Check.part("Answers how many records were sent in it by both sides", CallEdgesTest::tickCountsBothSides);
        Check.part("lost ones included", CallEdgesTest::tickCountsLostOnes);
        Check.part("True (also if it is LOST, its number being used then)", CallEdgesTest::sendIsTrueIfItIsLost);
        Check.part("false, changing nothing, if there is no such side", CallEdgesTest::sendIsRefusedForNoSide);
        Check.part("false, changing nothing, if .. it does not write epoch 3",
                CallEdgesTest::sendIsRefusedBeforeEpoch3);
        Check.part("false, changing nothing, if .. or has failed", CallEdgesTest::sendIsRefusedAfterFailing);
        Check.part("deliver: BAD if there is none such.", CallEdgesTest::deliverIsBadForNoRecord);
        Check.part("0 if not (so of a HELLO at the server in state 0, to which RETRY is sent all the same)",
                CallEdgesTest::deliverIsZeroForANewServersHello);
        Check.part("drop: True; false if there is none such.", CallEdgesTest::dropIsRefused);
        Check.part("A record like record i, spoilt if that is, is put into the net as one that is sent is.",
                CallEdgesTest::copyIsLikeItsRecord);
        Check.part("copy: false, changing nothing, if there is none such", CallEdgesTest::copyIsRefusedForNoRecord);
        Check.part("copy: false, changing nothing, if .. 60 are there", CallEdgesTest::copyIsRefusedWith60There);
        Check.part("spoil: True; false if there is none such.", CallEdgesTest::spoilIsRefused);
        Check.part("Record i is spoilt from now on.", CallEdgesTest::aSpoiltRecordStaysSpoilt);
        Check.part("How many records are in the net.", CallEdgesTest::waitingGoesFrom0To60);
        Check.part("How many records were lost because 60 were there (a copy that is refused is none).",
                CallEdgesTest::aRefusedCopyIsNotLost);
        Check.part("record: BAD if there is none such.", CallEdgesTest::recordIsBadForNoRecord);
        Check.part("content: BAD if there is none such.", CallEdgesTest::contentIsBadForNoRecord);
        Check.part("of an ACK how many names; of DATA 0", CallEdgesTest::contentOfWhatIsNoFragment);
        Check.part("BAD if record i is none", CallEdgesTest::byteOfIsBadForNoRecord);
        Check.part("BAD if record i .. has no such byte", CallEdgesTest::byteOfIsBadForNoByte);
        Check.part("Byte k of a fragment (0 .. 255); BAD if record i .. has no such byte (an ACK, DATA)",
                CallEdgesTest::byteOfIsBadForNoFragment);
        Check.part("Byte k of a fragment (0 .. 255)", CallEdgesTest::byteOfGoesUpTo255);
        Check.part("state: BAD if there is no such side.", CallEdgesTest::stateIsBadForNoSide);
        Check.part("transcript: 0 if there is no such side.", CallEdgesTest::transcriptIs0ForNoSide);
        Check.part("open: BAD if there is no such side.", CallEdgesTest::openIsBadForNoSide);
        Check.part("kept: BAD if there is no such side.", CallEdgesTest::keptIsBadForNoSide);
        Check.part("How many bytes of messages that are not taken yet a side keeps (the server none)",
                CallEdgesTest::theServerKeepsNothing);
        Check.part("received: BAD if there is no such side.", CallEdgesTest::receivedIsBadForNoSide);
        Check.part("Value i that a side received; 0 if there is none such.", CallEdgesTest::valueIs0ForNoneSuch);
        Check.part("DATA (an int)", CallEdgesTest::anyIntIsData);
        Check.part("Nothing is promised beyond the answers and state changes described above (so looking changes none)",
                CallEdgesTest::looksChangeNothing);
        Check.part("An object is used for at most 512 calls after it has been made",
                CallEdgesTest::theLastCallIsAnswered);
        Check.end();
    }

    private static int[] noRecords(int waiting) {
        return new int[] {-1, -2, waiting, waiting + 1, 60, 61, 1000, Integer.MIN_VALUE, Integer.MAX_VALUE};
    }

    /** Three records of DATA are under way, of the client, the server and the client; both sides are through. */
    private static Counted threeSent() {
        Counted x = Drive.through(3, 8);
        x.send(0, 10);
        x.send(1, 20);
        x.send(0, 30);
        return x;
    }

    private static void aSmallMtuCountsAs8() {
        for (int mtu : new int[] {7, 6, 1, 0, -1, -8, -100, Integer.MIN_VALUE + 1, Integer.MIN_VALUE}) {
            Counted x = Drive.flightSent(31, mtu);
            Check.due("first piece by " + mtu, x.content(2), 30008);
            Check.due("second piece by " + mtu, x.content(3), 30808);
            Check.due("pieces by " + mtu, x.waiting(), 9);
            Twins.areAlike(x, Drive.flightSent(31, 8));
        }
    }

    private static void aLargeMtuCountsAs24() {
        for (int mtu : new int[] {25, 26, 32, 43, 100, Integer.MAX_VALUE - 1, Integer.MAX_VALUE}) {
            Counted x = Drive.flightSent(31, mtu);
            Check.due("first piece by " + mtu, x.content(2), 30024);
            Check.due("second piece by " + mtu, x.content(3), 32419);
            Check.due("pieces by " + mtu, x.waiting(), 5);
            Twins.areAlike(x, Drive.flightSent(31, 24));
        }
    }

    private static void anMtuBetweenCountsAsItself() {
        for (int mtu = 8; mtu <= 24; mtu++) {
            Counted x = Drive.flightSent(31, mtu);
            Check.due("first piece by " + mtu, x.content(2), 30000 + mtu);
        }
    }

    private static void nothingWasSentAtFirst() {
        Counted x = new Counted(3, 8);
        Check.due("waiting", x.waiting(), 0);
        Check.due("lost", x.lost(), 0);
        for (int side = 0; side < 2; side++) {
            Check.due("state", x.state(side), 0);
            Check.due("transcript", x.transcript(side), 0);
            Check.due("open", x.open(side), 0);
            Check.due("kept", x.kept(side), 0);
            Check.due("received", x.received(side), 0);
            Check.due("value", x.value(side, 0), 0);
        }
    }

    /** The client in each state but 0, near to the end of a wait where it waits. */
    private static Counted clientInState(int state) {
        switch (state) {
            case 1:
                Counted x = new Counted(0, 24);
                x.start();
                Drive.ticks(x, 3);
                return x;
            case 2:
                x = Drive.helloAgainSent(0, 24);
                Drive.ticks(x, 3);
                return x;
            case 3:
                x = Drive.clientDoneSent(0, 24);
                Drive.ticks(x, 3);
                return x;
            case 4:
                return Drive.through(0, 24);
            default:
                x = new Counted(0, 24);
                x.start();
                Drive.ticks(x, 156);
                return x;
        }
    }

    private static void startIsRefused() {
        Check.yes("state 0", new Counted(0, 24).start());
        for (int state = 1; state <= 5; state++) {
            Counted x = clientInState(state);
            Check.due("state", x.state(0), state);
            Check.no("state " + state, x.start());
            Check.no("state " + state + ", once more", x.start());
            Twins.areAlike(x, clientInState(state));
        }
    }

    private static void tickCountsBothSides() {
        Counted x = new Counted(31, 8);
        Check.due("a new object", x.tick(), 0);
        x = Drive.flightSent(31, 8);
        int waiting = x.waiting();
        Check.due("nothing", Drive.ticks(x, 3), 0);
        Check.due("HELLO AGAIN and nine fragments", x.tick(), 10);
        Check.due("all of them are there", x.waiting(), waiting + 10);
    }

    private static void tickCountsLostOnes() {
        Counted x = Drive.flightSent(31, 8);
        Drive.copyUntil(x, 0, FULL);
        Drive.ticks(x, 3);
        Check.due("all lost", x.tick(), 10);
        Check.due("lost", x.lost(), 10);
        for (int i = 0; i < 3; i++) {
            x.drop(0);
        }
        Drive.ticks(x, 7);
        Check.due("all but three lost", x.tick(), 10);
        Check.due("lost", x.lost(), 17);
    }

    private static void sendIsTrueIfItIsLost() {
        Counted x = threeSent();
        Drive.copyUntil(x, 0, FULL);
        Check.yes("the client", x.send(0, 1));
        Check.yes("the client", x.send(0, 2));
        Check.yes("the server", x.send(1, 3));
        Check.due("lost", x.lost(), 3);
        x.drop(0);
        x.drop(0);
        x.send(0, 4);
        x.send(1, 5);
        Check.due("two numbers of the client are used", x.record(58), 230004);
        Check.due("one of the server", x.record(59), 1230003);
    }

    private static void sendIsRefusedForNoSide() {
        for (int side : NO_SIDES) {
            Counted x = threeSent();
            Check.no("side " + side, x.send(side, 7));
            Twins.areAlike(x, threeSent());
        }
        Counted full = threeSent();
        Drive.copyUntil(full, 0, FULL);
        for (int side : NO_SIDES) {
            Check.no("side " + side, full.send(side, 7));
        }
        Check.due("none is lost", full.lost(), 0);
    }

    private static void sendIsRefused(String when, int side, Counted one, Counted other) {
        Check.no(when, one.send(side, 7));
        Check.no(when, one.send(side, Integer.MIN_VALUE));
        Twins.areAlike(one, other);
    }

    private static Counted flightDelivered(int pieces) {
        Counted x = Drive.flightSent(0, 24);
        for (int i = 0; i < pieces; i++) {
            x.deliver(0);
        }
        return x;
    }

    private static void sendIsRefusedBeforeEpoch3() {
        for (int side = 0; side < 2; side++) {
            sendIsRefused("a new object", side, new Counted(0, 24), new Counted(0, 24));
            sendIsRefused("HELLO", side, clientInState(1), clientInState(1));
            sendIsRefused("HELLO AGAIN", side, clientInState(2), clientInState(2));
            for (int pieces = 0; pieces < 4; pieces++) {
                sendIsRefused(pieces + " pieces", side, flightDelivered(pieces), flightDelivered(pieces));
            }
        }
        sendIsRefused("the client's DONE", 1, clientInState(3), clientInState(3));
        Check.yes("the client", clientInState(3).send(0, 7));
        Counted x = clientInState(3);
        x.deliver(0);
        Check.yes("the server", x.send(1, 7));
    }

    private static Counted doneFailed() {
        Counted x = Drive.clientDoneSent(0, 24);
        Drive.ticks(x, 156);
        return x;
    }

    private static void sendIsRefusedAfterFailing() {
        Counted x = doneFailed();
        Check.due("the client", x.state(0), 5);
        Check.due("the server", x.state(1), 5);
        sendIsRefused("the client, which had sent its DONE", 0, doneFailed(), doneFailed());
        sendIsRefused("the server", 1, doneFailed(), doneFailed());
        x = Drive.clientDoneSent(0, 24);
        Check.yes("before", x.send(0, 7));
        Drive.ticks(x, 155);
        Check.yes("just before", x.send(0, 7));
        x.tick();
        Check.no("after", x.send(0, 7));
    }

    private static void deliverIsBadForNoRecord() {
        for (int i : noRecords(3)) {
            Counted x = threeSent();
            Check.due("record " + i, x.deliver(i), BAD);
            Twins.areAlike(x, threeSent());
        }
        Counted full = threeSent();
        Drive.copyUntil(full, 0, FULL);
        Check.due("record 60 of 60", full.deliver(60), BAD);
        Check.due("record 59 of 60", full.deliver(59), 1);
        Check.due("record 59 of 59", full.deliver(59), BAD);
    }

    private static void deliverIsZeroForANewServersHello() {
        Counted x = new Counted(3, 8);
        x.start();
        Check.due("HELLO", x.deliver(0), 0);
        Check.due("RETRY", x.content(0), 4);
        Check.due("its record", x.record(0), 1000000);
        Check.due("alone", x.waiting(), 1);
        Check.due("RETRY", x.deliver(0), 1);
        Check.due("HELLO AGAIN", x.deliver(0), 1);
    }

    private static void dropIsRefused() {
        for (int i : noRecords(3)) {
            Counted x = threeSent();
            Check.no("record " + i, x.drop(i));
            Twins.areAlike(x, threeSent());
        }
        Counted x = threeSent();
        Check.yes("the last", x.drop(2));
        Check.no("the last is gone", x.drop(2));
        Check.yes("the first", x.drop(0));
        Check.due("the one between", x.record(0), 1230001);
        Check.yes("that too", x.drop(0));
        Check.no("none is left", x.drop(0));
        Check.due("none is lost", x.lost(), 0);
    }

    private static void copyIsLikeItsRecord() {
        Counted x = threeSent();
        Check.yes("not spoilt", x.copy(0));
        x.spoil(0);
        Check.yes("spoilt", x.copy(0));
        Check.due("behind all others", x.record(4), 230000);
        Check.yes("a copy of the spoilt copy", x.copy(4));
        Check.due("the second copy", x.deliver(4), 0);
        Check.due("the third", x.deliver(4), 0);
        Check.due("the first", x.deliver(3), 1);
        Check.due("its value", x.value(1, 0), 10);
        x.copy(1);
        x.spoil(3);
        Check.due("a copy that is spoilt leaves its record", x.deliver(1), 1);
        Check.due("as it was", x.value(0, 0), 20);
        x = Drive.flightSent(31, 8);
        x.copy(7);
        Check.due("a fragment", x.content(9), 34003);
        for (int k = 0; k < 4; k++) {
            Check.due("its byte " + k, x.byteOf(9, k), x.byteOf(7, k));
        }
    }

    private static void copyIsRefusedForNoRecord() {
        for (int i : noRecords(3)) {
            Counted x = threeSent();
            Check.no("record " + i, x.copy(i));
            Twins.areAlike(x, threeSent());
        }
    }

    private static void copyIsRefusedWith60There() {
        Counted x = threeSent();
        Drive.copyUntil(x, 0, FULL - 1);
        Check.yes("with 59 there", x.copy(1));
        Check.due("waiting", x.waiting(), FULL);
        Check.due("the last", x.record(59), 1230001);
        for (int i : new int[] {0, 1, 58, 59, 60, -1}) {
            Check.no("with 60 there, record " + i, x.copy(i));
        }
        Check.due("waiting", x.waiting(), FULL);
        Check.due("the last stays", x.record(59), 1230001);
        Check.due("none is lost", x.lost(), 0);
        Check.yes("one goes", x.drop(3));
        Check.yes("one comes", x.copy(2));
        Check.due("the last", x.record(59), 230001);
    }

    private static void spoilIsRefused() {
        for (int i : noRecords(3)) {
            Counted x = threeSent();
            Check.no("record " + i, x.spoil(i));
            Twins.areAlike(x, threeSent());
        }
        Counted x = threeSent();
        Check.yes("the last", x.spoil(2));
        Check.yes("once more", x.spoil(2));
        Check.due("the first is not", x.deliver(0), 1);
        Check.due("nor the second", x.deliver(0), 1);
        Check.due("the last is", x.deliver(0), 0);
        x.send(0, 40);
        Check.due("the next is not", x.deliver(0), 1);
    }

    private static void aSpoiltRecordStaysSpoilt() {
        Counted x = threeSent();
        x.spoil(2);
        Drive.ticks(x, 40);
        x.drop(0);
        x.deliver(0);
        x.send(1, 40);
        Check.due("when others went and came", x.deliver(0), 0);
        Check.due("nothing is received", x.received(1), 0);
        Check.due("the one that came is not spoilt", x.deliver(0), 1);
        x = new Counted(3, 8);
        x.start();
        x.spoil(0);
        Drive.ticks(x, 4);
        Check.due("what is sent again is not spoilt", x.deliver(1), 0);
        Check.due("and answered", x.record(1), 1000001);
        Check.due("but the first one is", x.deliver(0), 0);
        Check.due("and not answered", x.waiting(), 1);
    }

    private static void waitingGoesFrom0To60() {
        Counted x = Drive.through(3, 8);
        for (int count = 0; count <= 62; count++) {
            Check.due("after " + count, x.waiting(), Math.min(FULL, count));
            x.send(0, count);
        }
        for (int count = 59; count >= 0; count--) {
            x.drop(0);
            Check.due("down to " + count, x.waiting(), count);
        }
    }

    private static void aRefusedCopyIsNotLost() {
        Counted x = threeSent();
        Drive.copyUntil(x, 0, FULL);
        x.copy(0);
        Check.due("a refused copy", x.lost(), 0);
        x.send(0, 1);
        Check.due("one", x.lost(), 1);
        x.copy(0);
        x.copy(60);
        Check.due("refused copies", x.lost(), 1);
        x.send(1, 1);
        Check.due("two", x.lost(), 2);
        x.drop(0);
        x.deliver(0);
        x.spoil(0);
        x.deliver(0);
        Check.due("what goes otherwise is not lost", x.lost(), 2);
    }

    private static void recordIsBadForNoRecord() {
        Counted x = threeSent();
        for (int i : noRecords(3)) {
            Check.due("record " + i, x.record(i), BAD);
        }
        Check.due("the last", x.record(2), 230001);
        Drive.dropAll(x);
        Check.due("none is left", x.record(0), BAD);
    }

    private static void contentIsBadForNoRecord() {
        Counted x = threeSent();
        for (int i : noRecords(3)) {
            Check.due("record " + i, x.content(i), BAD);
        }
        Check.due("the last", x.content(2), 0);
        Drive.dropAll(x);
        Check.due("none is left", x.content(0), BAD);
    }

    private static void contentOfWhatIsNoFragment() {
        Counted x = Drive.through(3, 8);
        int[] values = {Integer.MIN_VALUE, -1, 1, 10004, Integer.MAX_VALUE};
        for (int i = 0; i < values.length; i++) {
            x.send(i % 2, values[i]);
            Check.due("DATA " + values[i], x.content(i), 0);
        }
        x = Drive.clientDoneSent(3, 8);
        x.deliver(0);
        Check.due("an ACK of one", x.content(0), 1);
        Drive.ticks(x, 4);
        x.deliver(1);
        Check.due("the ACK that was sent stays", x.content(0), 1);
        Check.due("an ACK of two", x.content(1), 2);
    }

    private static void byteOfIsBadForNoRecord() {
        Counted x = Drive.flightSent(31, 8);
        for (int i : noRecords(9)) {
            Check.due("record " + i, x.byteOf(i, 0), BAD);
            Check.due("record " + i, x.byteOf(i, -1), BAD);
        }
        Drive.dropAll(x);
        Check.due("none is left", x.byteOf(0, 0), BAD);
    }

    private static void byteOfIsBadForNoByte() {
        Counted x = Drive.flightSent(31, 24);
        int[] lengths = {4, 6, 24, 19, 4};
        for (int i = 0; i < lengths.length; i++) {
            for (int k : new int[] {-1, -2, lengths[i], lengths[i] + 1, 100, Integer.MIN_VALUE, Integer.MAX_VALUE}) {
                Check.due("byte " + k + " of " + lengths[i], x.byteOf(i, k), BAD);
            }
            Check.yes("the first byte", x.byteOf(i, 0) >= 0);
            Check.yes("the last byte", x.byteOf(i, lengths[i] - 1) >= 0);
        }
    }

    private static void byteOfIsBadForNoFragment() {
        Counted x = Drive.flightSent(31, 8);
        x.deliver(0);
        Drive.ticks(x, 2);
        Check.due("the client's ACK", x.record(8), 120000);
        Check.due("the client's ACK", x.byteOf(8, 0), BAD);
        x = threeSent();
        for (int i = 0; i < 3; i++) {
            Check.due("DATA " + i, x.byteOf(i, 0), BAD);
        }
        x = Drive.clientDoneSent(0, 24);
        x.deliver(0);
        Check.due("the server's ACK", x.record(0), 1130000);
        Check.due("the server's ACK", x.byteOf(0, 0), BAD);
    }

    private static void byteOfGoesUpTo255() {
        boolean[] seen = new boolean[256];
        for (int seed = -40; seed < 40; seed++) {
            Counted x = Drive.flightSent(seed, 24);
            for (int k = 0; k < 12; k++) {
                int b = x.byteOf(2, k);
                Check.yes("a byte of PROOF", b >= 0 && b <= 255);
                seen[b & 255] = true;
            }
        }
        Check.yes("255 is among them", seen[255]);
        Check.yes("128 is among them", seen[128]);
        Check.yes("0 is among them", seen[0]);
    }

    private static void stateIsBadForNoSide() {
        for (int side : NO_SIDES) {
            Check.due("side " + side, threeSent().state(side), BAD);
            Check.due("side " + side + ", new", new Counted(0, 24).state(side), BAD);
        }
    }

    private static void transcriptIs0ForNoSide() {
        for (int side : NO_SIDES) {
            Check.due("side " + side, threeSent().transcript(side), 0);
        }
        Check.yes("the sides' own are not", threeSent().transcript(0) != 0);
    }

    private static void openIsBadForNoSide() {
        for (int side : NO_SIDES) {
            Check.due("side " + side, threeSent().open(side), BAD);
            Check.due("side " + side + ", in a flight", Drive.flightSent(31, 8).open(side), BAD);
        }
    }

    private static void keptIsBadForNoSide() {
        for (int side : NO_SIDES) {
            Check.due("side " + side, threeSent().kept(side), BAD);
        }
    }

    private static void theServerKeepsNothing() {
        Counted x = Drive.flightSent(31, 8);
        x.deliver(0);
        x.deliver(1);
        Check.due("the client", x.kept(0), 8);
        Check.due("the server", x.kept(1), 0);
        x = Drive.clientDoneSent(31, 8);
        Check.due("the client", x.kept(0), 0);
        x.deliver(0);
        Check.due("the server", x.kept(1), 0);
    }

    private static void receivedIsBadForNoSide() {
        for (int side : NO_SIDES) {
            Check.due("side " + side, threeSent().received(side), BAD);
        }
    }

    private static void valueIs0ForNoneSuch() {
        Counted x = threeSent();
        Drive.deliverAll(x);
        for (int side : NO_SIDES) {
            Check.due("side " + side, x.value(side, 0), 0);
        }
        for (int i : new int[] {-1, 2, 3, 59, 60, Integer.MIN_VALUE, Integer.MAX_VALUE}) {
            Check.due("the server's value " + i, x.value(1, i), 0);
        }
        for (int i : new int[] {-1, 1, 2, 59, 60, Integer.MIN_VALUE, Integer.MAX_VALUE}) {
            Check.due("the client's value " + i, x.value(0, i), 0);
        }
        Check.due("the server's first", x.value(1, 0), 10);
        Check.due("the server's last", x.value(1, 1), 30);
        Check.due("the client's", x.value(0, 0), 20);
    }

    private static void anyIntIsData() {
        int[] values = {Integer.MIN_VALUE, Integer.MIN_VALUE + 1, -65536, -1, 0, 1, 255, 256, Integer.MAX_VALUE};
        for (int side = 0; side < 2; side++) {
            Counted x = Drive.through(3, 8);
            for (int i = 0; i < values.length; i++) {
                Check.yes("send " + values[i], x.send(1 - side, values[i]));
                x.copy(0);
                x.drop(0);
                Check.due("deliver " + values[i], x.deliver(0), 1);
                Check.due("received", x.received(side), i + 1);
                Check.due("value", x.value(side, i), values[i]);
            }
        }
    }

    private static void lookAtAll(Counted x) {
        for (int i = -1; i < 3; i++) {
            x.record(i);
            x.content(i);
            x.byteOf(i, i);
            x.state(i);
            x.transcript(i);
            x.open(i);
            x.kept(i);
            x.received(i);
            x.value(i, i);
        }
        x.waiting();
        x.lost();
    }

    private static void looksChangeNothing() {
        for (int state = 1; state <= 4; state++) {
            Counted x = clientInState(state);
            lookAtAll(x);
            lookAtAll(x);
            Twins.areAlike(x, clientInState(state));
        }
    }

    private static void theLastCallIsAnswered() {
        Counted x = Drive.through(0, 24);
        int sent = 0;
        while (x.callsLeft() > 5) {
            x.send(0, sent);
            sent++;
        }
        Check.due("the last one in the net", x.record(59), 230059);
        x.drop(59);
        Check.yes("one more", x.send(0, 7));
        Check.due("its number", x.record(59), 230000 + sent);
        Check.due("the last call", x.lost(), sent - FULL);
        Check.due("no call is left", x.callsLeft(), 0);
    }
}
