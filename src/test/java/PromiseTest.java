/** Each promise of the document: ordinary inputs, the edges that it names, and wrong inputs. */
public final class PromiseTest {
    private static final int BAD = LossyHandshake.BAD;
    private static final int[] SEEDS = {0, 1, 5, 9, 31, 32, 1234567, -1, Integer.MIN_VALUE, Integer.MAX_VALUE};
    private static final int[] NO_SIDES = {-1, 2, 3, Integer.MIN_VALUE, Integer.MAX_VALUE};

    public static void main(String[] args) {
        Check.part("promise1", PromiseTest::promise1);
        Check.part("promise1Mtu", PromiseTest::promise1Mtu);
        Check.part("promise2", PromiseTest::promise2);
        Check.part("promise3Hello", PromiseTest::promise3Hello);
        Check.part("promise3HelloAgain", PromiseTest::promise3HelloAgain);
        Check.part("promise3Done", PromiseTest::promise3Done);
        Check.part("promise3Flight", PromiseTest::promise3Flight);
        Check.part("promise3OpenOnly", PromiseTest::promise3OpenOnly);
        Check.part("promise3AckDue", PromiseTest::promise3AckDue);
        Check.part("promise3AckPutOff", PromiseTest::promise3AckPutOff);
        Check.part("promise3Order", PromiseTest::promise3Order);
        Check.part("promise3Lost", PromiseTest::promise3Lost);
        Check.part("promise4", PromiseTest::promise4);
        Check.part("promise4Lost", PromiseTest::promise4Lost);
        Check.part("promise5Wrong", PromiseTest::promise5Wrong);
        Check.part("promise5Server", PromiseTest::promise5Server);
        Check.part("promise5Client", PromiseTest::promise5Client);
        Check.part("promise5ThrownAway", PromiseTest::promise5ThrownAway);
        Check.part("promise5Window", PromiseTest::promise5Window);
        Check.part("promise5ServerNumbers", PromiseTest::promise5ServerNumbers);
        Check.part("promise5AckNames", PromiseTest::promise5AckNames);
        Check.part("promise6", PromiseTest::promise6);
        Check.part("promise7", PromiseTest::promise7);
        Check.part("promise8", PromiseTest::promise8);
        Check.part("promise9And10", PromiseTest::promise9And10);
        Check.part("promise11", PromiseTest::promise11);
        Check.part("promise12", PromiseTest::promise12);
        Check.part("promise13", PromiseTest::promise13);
        Check.part("promise14", PromiseTest::promise14);
        Check.part("promise15", PromiseTest::promise15);
        Check.part("promise16", PromiseTest::promise16);
        Check.part("promise17", PromiseTest::promise17);
        Check.part("promise18And19", PromiseTest::promise18And19);
        Check.end();
    }

    private static void promise1() {
        for (int seed : SEEDS) {
            Counted x = new Counted(seed, 8);
            Check.due("1: waiting", x.waiting(), 0);
            Check.due("1: lost", x.lost(), 0);
            for (int side = 0; side < 2; side++) {
                Check.due("1: state", x.state(side), 0);
                Check.due("1: transcript", x.transcript(side), 0);
                Check.due("1: open", x.open(side), 0);
                Check.due("1: kept", x.kept(side), 0);
                Check.due("1: received", x.received(side), 0);
                Check.due("1: value", x.value(side, 0), 0);
            }
            Check.due("1: nothing is sent by the clock", Drive.ticks(x, 200), 0);
            Check.due("1: nothing fails", x.state(0) + x.state(1), 0);
        }
    }

    private static void promise1Mtu() {
        int[][] given = {{Integer.MIN_VALUE, 8}, {-8, 8}, {0, 8}, {7, 8}, {8, 8}, {9, 9}, {14, 14}, {15, 15},
            {22, 22}, {23, 23}, {24, 24}, {25, 24}, {43, 24}, {Integer.MAX_VALUE, 24}};
        for (int[] row : given) {
            for (int seed : new int[] {0, 3, 4, 12, 31}) {
                cutsProof(Drive.flightSent(seed, row[0]), seed, row[1]);
            }
        }
    }

    private static void cutsProof(Counted x, int seed, int mtu) {
        byte[] proof = new Contents(seed).proof;
        int i = 2;
        for (int at = 0; at < proof.length; at += mtu) {
            int length = Math.min(mtu, proof.length - at);
            Check.due("1: a piece of PROOF, mtu " + mtu, x.content(i), 30000 + 100 * at + length);
            holds("1: PROOF", x, i, at, length, proof);
            i++;
        }
        Check.due("1: DONE comes behind PROOF", x.content(i), 40004);
        Check.due("1: and nothing more", x.waiting(), i + 1);
    }

    private static void holds(String what, Counted x, int i, int at, int length, byte[] message) {
        for (int k = 0; k < length; k++) {
            Check.due(what + " byte " + (at + k), x.byteOf(i, k), message[at + k] & 255);
        }
        Check.due(what + " has no byte more", x.byteOf(i, length), BAD);
    }

    private static void promise2() {
        for (int seed : SEEDS) {
            Counted x = new Counted(seed, 8);
            Check.yes("2: start", x.start());
            Check.due("2: state", x.state(0), 1);
            Check.due("2: open", x.open(0), 1);
            Check.due("2: waiting", x.waiting(), 1);
            Check.due("2: record", x.record(0), 0);
            Check.due("2: content", x.content(0), 8);
            Contents c = new Contents(seed);
            holds("2: HELLO", x, 0, 0, 8, c.hello);
            Check.due("2: transcript", x.transcript(0), Contents.transcript(c.hello));
            startsNoMore("state 1", x, 1);
        }
        startsNoMore("state 2", Drive.helloAgainSent(4, 8), 2);
        startsNoMore("state 3", Drive.clientDoneSent(4, 8), 3);
        startsNoMore("state 4", Drive.through(4, 8), 4);
        Counted failed = new Counted(4, 8);
        failed.start();
        Drive.ticks(failed, 156);
        startsNoMore("state 5", failed, 5);
        Counted late = new Counted(4, 8);
        Drive.ticks(late, 100);
        Check.yes("2: start later", late.start());
        Check.due("2: three ticks", Drive.ticks(late, 3), 0);
        Check.due("2: the fourth", late.tick(), 1);
    }

    private static void startsNoMore(String when, Counted x, int state) {
        int waiting = x.waiting();
        int open = x.open(0);
        int transcript = x.transcript(0);
        Check.no("2: start in " + when, x.start());
        Check.due("2: state", x.state(0), state);
        Check.due("2: waiting", x.waiting(), waiting);
        Check.due("2: open", x.open(0), open);
        Check.due("2: transcript", x.transcript(0), transcript);
    }

    /** After 4, 8, 16, 32, 32 and 32 ticks a flight is sent again; after 32 more its side fails. */
    private static void sendsAgainAndFails(String what, Counted x, int side, int records) {
        int[] waits = {4, 8, 16, 32, 32, 32};
        for (int wait : waits) {
            Drive.dropAll(x);
            Check.due(what + ": before", Drive.ticks(x, wait - 1), 0);
            Check.due(what + ": after " + wait, x.tick(), records);
            Check.due(what + ": in the net", x.waiting(), records);
        }
        Drive.dropAll(x);
        Check.due(what + ": open before the end", x.open(side), records);
        Check.due(what + ": before the end", Drive.ticks(x, 31), 0);
        Check.yes(what + ": not failed yet", x.state(side) != 5);
        Check.due(what + ": at the end", x.tick(), 0);
        Check.due(what + ": failed", x.state(side), 5);
        Check.due(what + ": cares for nothing", x.open(side), 0);
        Check.due(what + ": nothing more", Drive.ticks(x, 100), 0);
    }

    private static void promise3Hello() {
        Counted x = new Counted(9, 8);
        x.start();
        sendsAgainAndFails("3: HELLO", x, 0, 1);
        Check.due("3: the server has seen nothing", x.state(1), 0);
    }

    private static void promise3HelloAgain() {
        Counted x = new Counted(9, 8);
        x.start();
        Drive.ticks(x, 30);
        Check.due("3: HELLO four times", x.waiting(), 4);
        x.deliver(3);
        x.deliver(3);
        Check.due("3: HELLO AGAIN", x.record(3), 4);
        sendsAgainAndFails("3: HELLO AGAIN waits from 4 on", x, 0, 1);
    }

    private static void promise3Done() {
        Counted x = Drive.clientDoneSent(9, 24);
        x.deliver(0);
        Check.due("3: the server cares no more", x.state(1), 2);
        sendsAgainAndFails("3: DONE", x, 0, 1);
        Check.due("3: the server is as it was", x.state(1), 2);
        Check.no("3: the client sends no DATA", x.send(0, 1));
        Check.yes("3: the server does", x.send(1, 1));
        Check.due("3: in vain", x.deliver(0), 0);
    }

    private static void promise3Flight() {
        Counted x = Drive.flightSent(31, 8);
        Check.due("3: ANSWER", x.deliver(0), 1);
        Drive.ticks(x, 2);
        Check.due("3: the ACK goes", x.record(8), 120000);
        x = Drive.flightSent(31, 8);
        Check.due("3: ANSWER lets the client care no more", x.deliver(0), 1);
        Drive.dropAll(x);
        Check.due("3: one ACK", Drive.ticks(x, 3), 1);
        Check.due("3: the flight whole", x.tick(), 9);
        Check.due("3: in new records", x.record(1), 1000002);
        Check.due("3: in new records", x.record(2), 1020008);
        Drive.dropAll(x);
        Check.due("3: and so on", Drive.ticks(x, 8), 9);
        Check.due("3: and so on", Drive.ticks(x, 16), 9);
        Check.due("3: and so on", Drive.ticks(x, 32), 9);
        Check.due("3: and so on", Drive.ticks(x, 32), 9);
        Check.due("3: and so on", Drive.ticks(x, 32), 9);
        Check.due("3: not seven times", Drive.ticks(x, 31), 0);
        Check.due("3: state before", x.state(1), 1);
        Check.due("3: not seven times", x.tick(), 0);
        Check.due("3: the server failed", x.state(1), 5);
        Check.due("3: the server's open", x.open(1), 0);
        Check.due("3: the client stays", x.state(0), 2);
    }

    private static void promise3OpenOnly() {
        Counted x = Drive.flightSent(31, 8);
        x.deliver(0);
        x.deliver(0);
        x.deliver(2);
        Drive.dropAll(x);
        Check.due("3: the ACK", Drive.ticks(x, 2), 1);
        Check.due("3: with three names", x.content(0), 3);
        Check.due("3: let in", x.deliver(0), 1);
        Check.due("3: six are open", x.open(1), 6);
        Check.due("3: the wait is not changed by it", x.tick(), 0);
        Check.due("3: six are sent", x.tick(), 6);
        int[] left = {30008, 30808, 32408, 33208, 34003, 40004};
        for (int i = 0; i < left.length; i++) {
            Check.due("3: an open one", x.content(i), left[i]);
            Check.due("3: its record", x.record(i), 1020008 + i);
        }
        x = Drive.through(31, 8);
        Check.due("3: nothing is open, nothing is sent", Drive.ticks(x, 300), 0);
        Check.due("3: and nobody fails", x.state(0) * 10 + x.state(1), 42);
        x = Drive.flightSent(0, 24);
        for (int i = 0; i < 4; i++) {
            x.deliver(i == 3 ? Drive.find(x, 1, 4) : 0);
            if (i == 1) {
                x.drop(0);
            }
        }
        Drive.ticks(x, 2);
        Check.due("3: three noted", x.content(0), 3);
        x.deliver(0);
        Check.due("3: PROOF alone is open", x.open(1), 1);
        Check.due("3: PROOF is sent", Drive.ticks(x, 2), 1);
        x.deliver(0);
        Check.due("3: the client is done", x.state(0), 3);
    }

    private static void promise3AckDue() {
        Counted x = Drive.flightSent(0, 8);
        x.deliver(0);
        Check.due("3: not at once", x.waiting(), 4);
        Check.due("3: not after one tick", x.tick(), 0);
        Check.due("3: after two", x.tick(), 1);
        Check.due("3: once", x.tick(), 0);
        Check.due("3: an ACK in epoch 2", x.record(4), 120000);
        Check.due("3: of one name", x.content(4), 1);
        x.drop(4);
        x.deliver(0);
        x.deliver(0);
        Check.due("3: the server sends its own again", x.tick(), 5);
        x.deliver(0);
        Check.due("3: put off", x.tick(), 0);
        x.deliver(0);
        Check.due("3: the client's DONE", x.state(0), 3);
        Check.due("3: an ACK that was due is due no more", x.tick(), 0);
        Check.due("3: nor later", x.tick(), 0);
    }

    private static void promise3AckPutOff() {
        Counted x = Drive.flightSent(31, 8);
        x.deliver(0);
        x.tick();
        x.deliver(0);
        Check.due("3: the second puts the ACK off", x.tick(), 0);
        x.deliver(0);
        Check.due("3: the third too", x.tick(), 0);
        Check.due("3: the ACK, then the server's flight", x.tick(), 10);
        Check.due("3: three names", x.content(6), 3);
    }

    private static void promise3Order() {
        Counted x = Drive.flightSent(0, 24);
        Drive.ticks(x, 2);
        x.deliver(0);
        Drive.dropAll(x);
        Check.due("3: first", x.tick(), 0);
        Check.due("3: the client's ACK and the server's four", x.tick(), 5);
        Check.due("3: the client comes first", x.record(0), 120000);
        Check.due("3: then the server", x.record(1), 1000002);
        Check.due("3: then the server", x.record(4), 1020005);
        x = Drive.clientDoneSent(0, 24);
        Drive.dropAll(x);
        Check.due("3: both send again", Drive.ticks(x, 4), 5);
        Check.due("3: the client comes first", x.record(0), 20001);
    }

    private static void promise3Lost() {
        Counted x = Drive.flightSent(31, 8);
        Drive.fill(x);
        Check.due("3: all are lost and counted", Drive.ticks(x, 4), 10);
        Check.due("3: lost", x.lost(), 10);
        Check.due("3: waiting", x.waiting(), 60);
        Drive.dropAll(x);
        Check.due("3: the next ones", Drive.ticks(x, 8), 10);
        Check.due("3: the numbers of lost ones are used", x.record(0), 3);
        Check.due("3: the numbers of lost ones are used", x.record(1), 1000003);
        Check.due("3: the numbers of lost ones are used", x.record(2), 1020016);
    }

    private static void promise4() {
        Counted x = new Counted(7, 8);
        sendsNothing("a new object", x, true, true);
        x.start();
        sendsNothing("HELLO", x, true, true);
        sendsNothing("HELLO AGAIN", Drive.helloAgainSent(7, 8), true, true);
        sendsNothing("the flight", Drive.flightSent(7, 8), true, true);
        x = Drive.clientDoneSent(7, 8);
        sendsNothing("the client's DONE", x, false, true);
        Check.yes("4: the client in state 3", x.send(0, 11));
        Check.due("4: its record", x.record(1), 230000);
        Check.due("4: the server does not read it yet", x.deliver(1), 0);
        Check.due("4: DONE", x.deliver(0), 1);
        Check.yes("4: the server in state 2", x.send(1, -12));
        Check.due("4: behind its ACK", x.record(1), 1230001);
        Check.yes("4: the client", x.send(0, 13));
        Check.due("4: the next number", x.record(2), 230001);
        Check.due("4: the client in state 3 reads it", x.deliver(1), 1);
        Check.due("4: value", x.value(0, 0), -12);
        Check.due("4: let in", x.deliver(1), 1);
        Check.due("4: value", x.value(1, 0), 13);
        sendsNothing("both through", Drive.through(7, 8), false, false);
        Counted failed = Drive.clientDoneSent(7, 8);
        Drive.ticks(failed, 156);
        Check.due("4: both failed", failed.state(0) * 10 + failed.state(1), 55);
        Drive.dropAll(failed);
        sendsNothing("both failed", failed, true, true);
    }

    private static void sendsNothing(String when, Counted x, boolean client, boolean server) {
        int waiting = x.waiting();
        for (int side : NO_SIDES) {
            Check.no("4: no such side, " + when, x.send(side, 1));
        }
        if (client) {
            Check.no("4: the client, " + when, x.send(0, 1));
        }
        if (server) {
            Check.no("4: the server, " + when, x.send(1, 1));
        }
        Check.due("4: waiting, " + when, x.waiting(), waiting);
        Check.due("4: lost, " + when, x.lost(), 0);
    }

    private static void promise4Lost() {
        Counted x = Drive.through(7, 8);
        x.send(0, 1);
        Drive.fill(x);
        Check.yes("4: a lost one", x.send(0, 2));
        Check.yes("4: a lost one of the server", x.send(1, 3));
        Check.due("4: lost", x.lost(), 2);
        Drive.dropAll(x);
        x.send(0, 4);
        x.send(1, 5);
        Check.due("4: the number was used", x.record(0), 230002);
        Check.due("4: the number was used, and 0 by the ACK", x.record(1), 1230002);
    }

    private static void promise5Wrong() {
        Counted x = new Counted(3, 8);
        Check.due("5: none", x.deliver(0), BAD);
        x.start();
        for (int i : new int[] {-1, 1, 60, Integer.MIN_VALUE, Integer.MAX_VALUE}) {
            Check.due("5: no record " + i, x.deliver(i), BAD);
        }
        Check.due("5: waiting", x.waiting(), 1);
    }

    private static void promise5Server() {
        Counted x = new Counted(3, 8);
        Contents c = new Contents(3);
        x.start();
        Drive.ticks(x, 4);
        x.copy(0);
        Check.due("5: HELLO in state 0 is not let in", x.deliver(0), 0);
        Check.due("5: but answered", x.record(2), 1000000);
        holds("5: RETRY", x, 2, 0, 4, c.retry);
        Check.due("5: nothing is kept", x.state(1) + x.kept(1) + x.open(1) + x.transcript(1), 0);
        Check.due("5: a copy of it is not old", x.deliver(1), 0);
        Check.due("5: and answered too", x.record(2), 1000000);
        x.copy(0);
        Check.due("5: HELLO 1", x.deliver(0), 0);
        Check.due("5: RETRY has its number", x.record(3), 1000001);
        x.drop(1);
        x.drop(2);
        Check.due("5: RETRY 0", x.deliver(0), 1);
        Check.due("5: HELLO AGAIN 2", x.record(1), 2);
        holds("5: HELLO AGAIN", x, 1, 0, 8, c.helloAgain);
        x.copy(1);
        x.copy(1);
        Check.due("5: HELLO AGAIN is let in", x.deliver(1), 1);
        Check.due("5: state", x.state(1), 1);
        Check.due("5: the copy is old", x.deliver(1), 0);
        x.drop(1);
        int waiting = x.waiting();
        Check.due("5: HELLO 1 in state 1 is let in", x.deliver(0), 1);
        Check.due("5: and answered", x.record(waiting - 1), 1000001);
        Check.due("5: nothing else comes of it", x.waiting(), waiting);
        Check.due("5: the server's flight is as it was", x.open(1), 5);
        Check.due("5: RETRY in the client's state 2 is let in", x.deliver(waiting - 1), 1);
        Check.due("5: without effect", x.state(0) * 10 + x.open(0), 21);
        Drive.dropAll(x);
        Drive.ticks(x, 4);
        Check.due("5: HELLO AGAIN once more", x.record(0), 3);
        waiting = x.waiting();
        Check.due("5: is let in", x.deliver(0), 1);
        Check.due("5: without effect", x.waiting(), waiting - 1);
        Check.due("5: the server's state", x.state(1), 1);
    }

    private static void promise5Client() {
        Counted x = Drive.clientDoneSent(3, 8);
        x.copy(0);
        Check.due("5: DONE at the server", x.deliver(0), 1);
        Check.due("5: an ACK in epoch 3", x.record(1), 1130000);
        Check.due("5: a copy of DONE is old", x.deliver(0), 0);
        x.drop(0);
        Check.due("5: DONE again", Drive.ticks(x, 4), 1);
        Check.due("5: DONE in state 2", x.deliver(0), 1);
        Check.due("5: another ACK", x.record(0), 1130001);
        Check.due("5: of both", x.content(0), 2);
        int transcript = x.transcript(1);
        Check.due("5: the transcripts agree", x.transcript(0), transcript);
        x.copy(0);
        Check.due("5: the ACK", x.deliver(0), 1);
        Check.due("5: state", x.state(0), 4);
        Check.due("5: its copy is old", x.deliver(0), 0);
        x = Drive.flightSent(3, 8);
        for (int i = 0; i < 6; i++) {
            x.copy(i);
        }
        Drive.ticks(x, 4);
        Drive.deliverAll(x);
        Check.due("5: pieces in state 3 and 4 have no effect", x.state(0), 4);
        Check.due("5: nor are they kept", x.kept(0), 0);
        Check.due("5: nor acknowledged", Drive.ticks(x, 10), 0);
    }

    private static void promise5ThrownAway() {
        Counted x = new Counted(3, 8);
        x.start();
        x.spoil(0);
        Check.due("5: a spoilt HELLO", x.deliver(0), 0);
        Check.due("5: is not answered", x.waiting(), 0);
        x = Drive.flightSent(3, 8);
        Check.due("5: TERMS before ANSWER are not read", x.deliver(1), 0);
        Check.due("5: the client still cares", x.open(0), 1);
        Check.due("5: nothing is kept", x.kept(0), 0);
        x.copy(0);
        x.spoil(0);
        Check.due("5: a spoilt ANSWER", x.deliver(0), 0);
        Check.due("5: does not take its number", x.deliver(x.waiting() - 1), 1);
        x = Drive.helloAgainSent(3, 8);
        x.copy(0);
        x.deliver(0);
        x.drop(0);
        Drive.ticks(x, 156);
        Check.due("5: both failed", x.state(0) * 10 + x.state(1), 55);
        x.drop(0);
        int waiting = x.waiting();
        for (int i = 0; i < waiting; i++) {
            Check.due("5: a failed side lets nothing in", x.deliver(0), 0);
        }
        Check.due("5: nor does it answer", x.waiting(), 0);
        x = new Counted(3, 8);
        x.start();
        x.copy(0);
        x.deliver(0);
        x.deliver(1);
        x.deliver(1);
        Check.due("5: the server in state 1", x.state(1), 1);
        x.copy(0);
        Drive.ticks(x, 156);
        Check.due("5: a HELLO at a failed server", x.deliver(0), 0);
    }

    private static void promise5Window() {
        Counted x = Drive.through(3, 8);
        for (int i = 0; i < 40; i++) {
            x.send(0, i);
        }
        Check.due("5: number 20", x.deliver(20), 1);
        Check.due("5: number 4 is 16 less", x.deliver(4), 0);
        Check.due("5: number 5 is 15 less", x.deliver(4), 1);
        Check.due("5: number 19", x.deliver(17), 1);
        x.copy(17);
        Check.due("5: number 21", x.deliver(17), 1);
        Check.due("5: number 21 once more", x.deliver(x.waiting() - 1), 0);
        Check.due("5: number 6 is 15 less", x.deliver(4), 1);
        Check.due("5: number 39", x.deliver(x.waiting() - 1), 1);
        Check.due("5: number 0 is far behind", x.deliver(0), 0);
        Check.due("5: received", x.received(1), 6);
        int[] due = {20, 5, 19, 21, 6, 39};
        for (int i = 0; i < due.length; i++) {
            Check.due("5: value " + i, x.value(1, i), due[i]);
        }
        x = Drive.through(3, 8);
        for (int i = 0; i < 17; i++) {
            x.send(0, i);
        }
        for (int i = 0; i < 17; i++) {
            x.copy(i);
        }
        Check.due("5: number 0", x.deliver(0), 1);
        Check.due("5: number 15", x.deliver(14), 1);
        Check.due("5: number 0 is known", x.deliver(15), 0);
        for (int i = 0; i < 14; i++) {
            Check.due("5: number " + (i + 1), x.deliver(0), 1);
        }
        Check.due("5: number 16", x.deliver(0), 1);
        for (int i = 1; i < 17; i++) {
            Check.due("5: number " + i + " is known", x.deliver(0), 0);
        }
    }

    private static void promise5ServerNumbers() {
        Counted x = new Counted(3, 24);
        x.start();
        Drive.ticks(x, 124);
        Check.due("5: HELLO seven times", x.waiting(), 7);
        x.deliver(6);
        x.deliver(6);
        Check.due("5: HELLO AGAIN", x.record(6), 7);
        x.drop(6);
        Drive.ticks(x, 124);
        Check.due("5: the last HELLO AGAIN", x.record(11), 13);
        x.deliver(11);
        Check.due("5: ANSWER is numbered from there", x.record(11), 1000013);
        Check.due("5: TERMS from 0", x.record(12), 1020000);
        Drive.ticks(x, 60);
        Check.due("5: the client failed meanwhile", x.state(0), 5);
        Check.due("5: ANSWER again", x.record(15), 1000014);
        Check.due("5: HELLO 0 is less by 13", x.deliver(0), 1);
        Check.due("5: its RETRY", x.record(x.waiting() - 1), 1000000);
        x = new Counted(3, 24);
        x.start();
        x.copy(0);
        x.deliver(0);
        x.copy(1);
        x.deliver(1);
        Drive.ticks(x, 60);
        int last = Drive.find(x, 0, 1);
        for (int i = last; i < x.waiting(); i++) {
            last = x.content(i) == 10008 ? i : last;
        }
        Check.due("5: HELLO AGAIN 5", x.record(last), 5);
        x.deliver(last);
        Drive.ticks(x, 92);
        Check.due("5: RETRY 0 was let in before", x.deliver(1), 0);
        Check.due("5: HELLO 0 in state 1", x.deliver(0), 1);
    }

    private static void promise5AckNames() {
        Counted x = Drive.flightSent(31, 8);
        for (int i = 0; i < 8; i++) {
            x.deliver(0);
        }
        Drive.ticks(x, 2);
        Check.due("5: eight names", x.content(1), 8);
        x.drop(0);
        x.deliver(0);
        Check.due("5: DONE alone is open", x.open(1), 1);
        x = Drive.flightSent(31, 8);
        for (int i = 0; i < 8; i++) {
            x.deliver(0);
        }
        Drive.dropAll(x);
        Drive.ticks(x, 2);
        x.drop(0);
        Drive.ticks(x, 2);
        Check.due("5: TERMS again", x.content(1), 20006);
        Check.due("5: are let in", x.deliver(1), 1);
        Drive.dropAll(x);
        Drive.ticks(x, 2);
        Check.due("5: eight names at most", x.content(0), 8);
        Check.due("5: the second ACK", x.record(0), 120001);
        x.deliver(0);
        Check.due("5: the latest eight, so not ANSWER", x.open(1), 2);
        Check.due("5: two are sent", Drive.ticks(x, 6), 2);
        Check.due("5: ANSWER", x.content(0), 10004);
        Check.due("5: DONE", x.content(1), 40004);
        x = Drive.flightSent(0, 24);
        Drive.ticks(x, 4);
        x.deliver(0);
        Drive.ticks(x, 2);
        Check.due("5: ANSWER's first record is named after it was sent again", x.deliver(x.waiting() - 1), 1);
        Check.due("5: it is open no more", x.open(1), 3);
    }

    private static Counted threeData() {
        Counted x = Drive.through(3, 8);
        x.send(0, 10);
        x.send(1, 20);
        x.send(0, 30);
        return x;
    }

    private static void promise6() {
        Check.no("6: none", new Counted(3, 8).drop(0));
        Counted x = threeData();
        for (int i : new int[] {-1, 3, 60, Integer.MIN_VALUE, Integer.MAX_VALUE}) {
            Check.no("6: no record " + i, x.drop(i));
        }
        Check.due("6: waiting", x.waiting(), 3);
        Check.yes("6: the middle one", x.drop(1));
        Check.due("6: waiting", x.waiting(), 2);
        Check.due("6: first", x.record(0), 230000);
        Check.due("6: last", x.record(1), 230001);
        Check.yes("6: the last one", x.drop(1));
        Check.no("6: it is gone", x.drop(1));
        Check.yes("6: the first one", x.drop(0));
        Check.due("6: waiting", x.waiting(), 0);
        Check.due("6: received", x.received(0) + x.received(1), 0);
        Check.due("6: a dropped one is not lost", x.lost(), 0);
    }

    private static void promise7() {
        Check.no("7: none", new Counted(3, 8).copy(0));
        Counted x = threeData();
        for (int i : new int[] {-1, 3, 60, Integer.MIN_VALUE, Integer.MAX_VALUE}) {
            Check.no("7: no record " + i, x.copy(i));
        }
        Check.due("7: waiting", x.waiting(), 3);
        Check.yes("7: a copy", x.copy(1));
        Check.due("7: behind all others", x.record(3), 1230001);
        Check.due("7: it holds the same", x.deliver(3), 1);
        Check.due("7: value", x.value(0, 0), 20);
        Check.due("7: the first is old now", x.deliver(1), 0);
        x.spoil(0);
        Check.yes("7: a copy of a spoilt one", x.copy(0));
        Check.due("7: is spoilt", x.deliver(2), 0);
        Check.due("7: received", x.received(1), 0);
        Check.yes("7: a copy", x.copy(1));
        Check.yes("7: the one that was copied is spoilt later", x.spoil(1));
        Check.due("7: the copy is not", x.deliver(2), 1);
        Drive.fill(x);
        Check.due("7: 60", x.waiting(), 60);
        Check.no("7: no more", x.copy(59));
        Check.no("7: none such", x.copy(60));
        Check.due("7: waiting", x.waiting(), 60);
        Check.due("7: lost", x.lost(), 0);
        Counted f = Drive.flightSent(31, 8);
        f.copy(3);
        Check.due("7: a fragment", f.content(9), f.content(3));
        Check.due("7: its record", f.record(9), f.record(3));
        holds("7: its bytes", f, 9, 8, 8, new Contents(31).proof);
        f.deliver(0);
        Drive.ticks(f, 2);
        f.copy(9);
        Check.due("7: an ACK", f.record(10), 120000);
        Check.due("7: an ACK's names", f.content(10), 1);
        f.deliver(10);
        Check.due("7: they count", f.open(1), 8);
    }

    private static void promise8() {
        Check.no("8: none", new Counted(3, 8).spoil(0));
        Counted x = threeData();
        for (int i : new int[] {-1, 3, 60, Integer.MIN_VALUE, Integer.MAX_VALUE}) {
            Check.no("8: no record " + i, x.spoil(i));
        }
        Check.yes("8: a record", x.spoil(0));
        Check.yes("8: once more", x.spoil(0));
        Check.due("8: it looks the same", x.record(0), 230000);
        Check.due("8: thrown away", x.deliver(0), 0);
        Check.due("8: the next is not", x.deliver(0), 1);
        Check.due("8: nor the last", x.deliver(0), 1);
        x.send(0, 1);
        Check.due("8: a new record is not spoilt", x.deliver(0), 1);
        Check.due("8: received", x.received(1), 2);
        for (int i = 0; i < 60; i++) {
            x.send(0, i);
            x.spoil(i);
        }
        Drive.dropAll(x);
        for (int i = 0; i < 30; i++) {
            x.send(0, i);
        }
        for (int i = 0; i < 30; i++) {
            Check.due("8: none of the next ones is spoilt", x.deliver(0), 1);
        }
    }

    private static void promise9And10() {
        Counted x = new Counted(31, 8);
        x.start();
        Check.due("9: one", x.waiting(), 1);
        Drive.fill(x);
        Check.due("9: sixty", x.waiting(), 60);
        Check.due("10: a refused copy is none", x.lost(), 0);
        Check.due("3: HELLO is lost", Drive.ticks(x, 4), 1);
        Check.due("10: one", x.lost(), 1);
        Check.due("9: sixty", x.waiting(), 60);
        x.deliver(0);
        Check.due("10: RETRY finds the room that HELLO left", x.lost(), 1);
        Check.due("9: sixty", x.waiting(), 60);
        x.deliver(59);
        x.deliver(59);
        Check.due("10: eight of nine are lost", x.lost(), 9);
        Check.due("9: sixty", x.waiting(), 60);
        Check.due("16: but open", x.open(1), 9);
        Drive.dropAll(x);
        Check.due("9: none", x.waiting(), 0);
        Check.due("10: nine", x.lost(), 9);
    }

    private static void promise11() {
        Counted x = Drive.flightSent(31, 8);
        Check.due("11: ANSWER", x.record(0), 1000001);
        for (int i = 1; i < 9; i++) {
            Check.due("11: the others", x.record(i), 1020000 + i - 1);
        }
        for (int i : new int[] {-1, 9, 60, Integer.MIN_VALUE, Integer.MAX_VALUE}) {
            Check.due("11: no record " + i, x.record(i), BAD);
        }
        x = Drive.clientDoneSent(31, 8);
        Check.due("11: the client's DONE", x.record(0), 20000);
        x = Drive.through(31, 8);
        x.send(0, 1);
        x.send(1, 1);
        Check.due("11: DATA of the client", x.record(0), 230000);
        Check.due("11: DATA of the server", x.record(1), 1230001);
    }

    private static void promise12() {
        Counted x = new Counted(31, 8);
        x.start();
        Check.due("12: HELLO", x.content(0), 8);
        x.deliver(0);
        Check.due("12: RETRY", x.content(0), 4);
        x.deliver(0);
        Check.due("12: HELLO AGAIN", x.content(0), 10008);
        x = Drive.flightSent(31, 8);
        int[] due = {10004, 20006, 30008, 30808, 31608, 32408, 33208, 34003, 40004};
        for (int i = 0; i < due.length; i++) {
            Check.due("12: piece " + i, x.content(i), due[i]);
        }
        for (int i : new int[] {-1, 9, 60, Integer.MIN_VALUE, Integer.MAX_VALUE}) {
            Check.due("12: no record " + i, x.content(i), BAD);
        }
        x = Drive.clientDoneSent(31, 8);
        Check.due("12: the client's DONE", x.content(0), 20004);
        x.deliver(0);
        Check.due("12: an ACK", x.content(0), 1);
        x.send(1, 5);
        Check.due("12: DATA", x.content(1), 0);
    }

    private static void promise13() {
        for (int seed : SEEDS) {
            Contents c = new Contents(seed);
            Counted x = new Counted(seed, 24);
            x.start();
            holds("13: HELLO", x, 0, 0, 8, c.hello);
            x.deliver(0);
            holds("13: RETRY", x, 0, 0, 4, c.retry);
            x.deliver(0);
            holds("13: HELLO AGAIN", x, 0, 0, 8, c.helloAgain);
            x.deliver(0);
            holds("13: ANSWER", x, 0, 0, 4, c.answer);
            holds("13: TERMS", x, 1, 0, 6, c.terms);
            holds("13: PROOF", x, 2, 0, Math.min(24, c.proof.length), c.proof);
            holds("13: DONE", x, x.waiting() - 1, 0, 4, c.serverDone);
            for (int i : new int[] {-1, x.waiting(), Integer.MIN_VALUE, Integer.MAX_VALUE}) {
                Check.due("13: no record " + i, x.byteOf(i, 0), BAD);
            }
            for (int k : new int[] {-1, 24, Integer.MIN_VALUE, Integer.MAX_VALUE}) {
                Check.due("13: no byte " + k, x.byteOf(2, k), BAD);
            }
            x = Drive.clientDoneSent(seed, 24);
            holds("13: the client's DONE", x, 0, 0, 4, c.clientDone);
            x.deliver(0);
            Check.due("13: an ACK has no bytes", x.byteOf(0, 0), BAD);
            x.send(1, 9);
            Check.due("13: DATA has none", x.byteOf(1, 0), BAD);
        }
    }

    private static void promise14() {
        Counted x = new Counted(6, 24);
        states("new", x, 0, 0);
        x.start();
        states("HELLO", x, 1, 0);
        x.deliver(0);
        states("RETRY", x, 1, 0);
        x.deliver(0);
        states("HELLO AGAIN", x, 2, 0);
        x.deliver(0);
        states("the flight", x, 2, 1);
        x.deliver(0);
        x.deliver(0);
        x.deliver(0);
        states("all but DONE", x, 2, 1);
        x.deliver(0);
        states("DONE", x, 3, 1);
        x.deliver(0);
        states("the client's DONE", x, 3, 2);
        x.deliver(0);
        states("the ACK", x, 4, 2);
        for (int side : NO_SIDES) {
            Check.due("14: no side " + side, x.state(side), BAD);
        }
    }

    private static void states(String when, Counted x, int client, int server) {
        Check.due("14: the client, " + when, x.state(0), client);
        Check.due("14: the server, " + when, x.state(1), server);
    }

    private static void promise15() {
        for (int seed : SEEDS) {
            Contents c = new Contents(seed);
            Counted x = new Counted(seed, 24);
            x.start();
            x.copy(0);
            x.copy(0);
            x.deliver(0);
            transcripts("HELLO", x, Contents.transcript(c.hello), 0);
            x.deliver(x.waiting() - 1);
            transcripts("RETRY", x, Contents.transcript(c.hello, c.retry, c.helloAgain), 0);
            x.deliver(x.waiting() - 1);
            int server = Contents.transcript(c.hello, c.retry, c.helloAgain, c.answer, c.terms, c.proof, c.serverDone);
            transcripts("HELLO AGAIN", x, Contents.transcript(c.hello, c.retry, c.helloAgain), server);
            Drive.ticks(x, 4);
            transcripts("sent again", x, Contents.transcript(c.hello, c.retry, c.helloAgain), server);
            x.deliver(Drive.find(x, 1, 1));
            transcripts("ANSWER", x, Contents.transcript(c.hello, c.retry, c.helloAgain, c.answer), server);
            x.deliver(Drive.find(x, 1, 4));
            transcripts("DONE too early", x, Contents.transcript(c.hello, c.retry, c.helloAgain, c.answer), server);
            x.deliver(Drive.find(x, 1, 1));
            transcripts("ANSWER again", x, Contents.transcript(c.hello, c.retry, c.helloAgain, c.answer), server);
            x.deliver(Drive.find(x, 1, 2));
            transcripts("TERMS", x, Contents.transcript(c.hello, c.retry, c.helloAgain, c.answer, c.terms), server);
            int whole = Contents.transcript(c.hello, c.retry, c.helloAgain, c.answer, c.terms, c.proof, c.serverDone,
                    c.clientDone);
            for (int i = 0; i < 20 && x.state(0) == 2; i++) {
                x.deliver(Drive.find(x, 1, 3));
            }
            transcripts("PROOF", x, whole, server);
            x.deliver(Drive.find(x, 0, 2));
            transcripts("the client's DONE", x, whole, whole);
            Drive.ticks(x, 4);
            x.deliver(Drive.find(x, 0, 2));
            transcripts("the client's DONE again", x, whole, whole);
            for (int side : NO_SIDES) {
                Check.due("15: no side " + side, x.transcript(side), 0);
            }
        }
    }

    private static void transcripts(String when, Counted x, int client, int server) {
        Check.due("15: the client, " + when, x.transcript(0), client);
        Check.due("15: the server, " + when, x.transcript(1), server);
    }

    private static void promise16() {
        Counted x = new Counted(31, 8);
        opens("new", x, 0, 0);
        x.start();
        opens("HELLO", x, 1, 0);
        x.deliver(0);
        opens("RETRY is no flight", x, 1, 0);
        x.deliver(0);
        opens("HELLO AGAIN", x, 1, 0);
        x.deliver(0);
        opens("the flight", x, 1, 9);
        x.deliver(1);
        opens("TERMS too early", x, 1, 9);
        x.deliver(0);
        opens("ANSWER", x, 0, 9);
        Drive.ticks(x, 2);
        x.deliver(x.waiting() - 1);
        opens("an ACK of ANSWER", x, 0, 8);
        Drive.ticks(x, 2);
        Drive.deliverWhileWaiting(x);
        opens("DONE", x, 1, 8);
        x.deliver(Drive.find(x, 0, 2));
        opens("the client's DONE", x, 1, 0);
        x.deliver(x.waiting() - 1);
        opens("its ACK", x, 0, 0);
        for (int side : NO_SIDES) {
            Check.due("16: no side " + side, x.open(side), BAD);
        }
        promise16EverySending();
    }

    private static void promise16EverySending() {
        Counted x = new Counted(0, 24);
        x.start();
        Drive.dropAll(x);
        Drive.ticks(x, 155);
        x.deliver(x.waiting() - 1);
        x.deliver(x.waiting() - 1);
        Drive.ticks(x, 155);
        Check.due("16: the last HELLO AGAIN", x.record(x.waiting() - 1), 13);
        x.deliver(x.waiting() - 1);
        for (int i = 0; i < 4; i++) {
            x.deliver(x.waiting() - 4 + i);
        }
        Check.due("16: the client's DONE", x.state(0), 3);
        x.drop(x.waiting() - 1);
        Drive.ticks(x, 155);
        Check.due("16: the last DONE, before four of the server", x.record(x.waiting() - 5), 20006);
        opens("seven times", x, 1, 4);
        x.deliver(x.waiting() - 5);
        opens("DONE at the server", x, 1, 0);
        x.deliver(x.waiting() - 1);
        opens("its ACK", x, 0, 0);
        Check.due("16: acknowledged", x.state(0), 4);
    }

    private static void opens(String when, Counted x, int client, int server) {
        Check.due("16: the client, " + when, x.open(0), client);
        Check.due("16: the server, " + when, x.open(1), server);
    }

    private static void promise17() {
        Counted x = Drive.flightSent(31, 8);
        Check.due("17: nothing", x.kept(0), 0);
        x.deliver(0);
        Check.due("17: ANSWER is taken", x.kept(0), 0);
        x.deliver(7);
        Check.due("17: DONE", x.kept(0), 4);
        x.deliver(6);
        Check.due("17: the end of PROOF", x.kept(0), 7);
        x.deliver(1);
        Check.due("17: its beginning", x.kept(0), 15);
        Drive.ticks(x, 4);
        x.deliver(x.waiting() - 2);
        Check.due("17: its end once more", x.kept(0), 15);
        Check.due("17: TERMS", x.deliver(0), 1);
        Check.due("17: are taken", x.kept(0), 15);
        Drive.deliverWhileWaiting(x);
        Check.due("17: all is taken", x.kept(0), 0);
        Check.due("17: the server keeps nothing", x.kept(1), 0);
        x.deliver(Drive.find(x, 0, 2));
        Check.due("17: the server keeps nothing", x.kept(1), 0);
        for (int side : NO_SIDES) {
            Check.due("17: no side " + side, x.kept(side), BAD);
        }
    }

    private static void promise18And19() {
        for (int side = 0; side < 2; side++) {
            Counted x = Drive.through(31, 8);
            for (int i = 0; i < 65; i++) {
                x.send(1 - side, 1000 - 20 * i);
                Check.due("18: let in", x.deliver(0), 1);
                Check.due("18: received", x.received(side), Math.min(60, i + 1));
                Check.due("18: the other side", x.received(1 - side), 0);
            }
            for (int i = 0; i < 60; i++) {
                Check.due("19: value " + i, x.value(side, i), 1000 - 20 * i);
                Check.due("19: the other side", x.value(1 - side, i), 0);
            }
            for (int i : new int[] {-1, 60, 64, Integer.MIN_VALUE, Integer.MAX_VALUE}) {
                Check.due("19: no value " + i, x.value(side, i), 0);
            }
            for (int none : NO_SIDES) {
                Check.due("18: no side " + none, x.received(none), BAD);
                Check.due("19: no side " + none, x.value(none, 0), 0);
            }
        }
        Counted x = Drive.through(31, 8);
        x.send(0, Integer.MIN_VALUE);
        x.deliver(0);
        Check.due("19: one", x.value(1, 0), Integer.MIN_VALUE);
        Check.due("19: no second", x.value(1, 1), 0);
    }
}
