/** The sentences on ticks and states that name an edge, each with a test of its own. */
public final class TickEdgesTest {
    public static void main(String[] args) {
        Check.part("A TICK: the clock goes on by 1.", TickEdgesTest::theClockGoesOnByOne);
        Check.part("Then for the client, then for the server", TickEdgesTest::theClientComesFirst);
        Check.part("if an ACK is due now, it is sent", TickEdgesTest::anAckIsSentWhenItIsDue);
        Check.part("(and due no more)", TickEdgesTest::anAckIsDueNoMoreWhenItIsSent);
        Check.part("An ACK that is due is due no more when the state changes.",
                TickEdgesTest::anAckIsDueNoMoreWhenTheStateChanges);
        Check.part("A TICK: .. Then .. if it has waited long enough, what is said above. (nothing by other calls)",
                TickEdgesTest::nothingIsSentBetweenTicks);
        Check.part("STATES of the client: 0 nothing yet, 1 has sent HELLO, 2 has sent HELLO AGAIN, 3 has sent its "
                + "DONE, 4 its DONE is acknowledged (no fragment of it is open), 5 failed.",
                TickEdgesTest::theStatesOfTheClient);
        Check.part("Of the server: 0 nothing, 1 has taken HELLO AGAIN and sent its flight, 2 has taken the client's "
                + "DONE, 5 failed.", TickEdgesTest::theStatesOfTheServer);
        Check.end();
    }

    private static void theClockGoesOnByOne() {
        Counted x = new Counted(0, 24);
        x.start();
        int[] due = new int[160];
        for (int at : new int[] {4, 12, 28, 60, 92, 124}) {
            due[at] = 1;
        }
        for (int clock = 1; clock < due.length; clock++) {
            Check.due("tick " + clock, x.tick(), due[clock]);
            Check.due("state after " + clock, x.state(0), clock < 156 ? 1 : 5);
        }
    }

    private static void theClientComesFirst() {
        Counted x = Drive.flightSent(0, 24);
        Drive.dropAll(x);
        Check.due("both send again", Drive.ticks(x, 4), 5);
        Check.due("the client's HELLO AGAIN", x.record(0), 2);
        Check.due("the server's ANSWER", x.record(1), 1000002);
        Check.due("the server's DONE", x.record(4), 1020005);
        x = Drive.flightSent(0, 24);
        Drive.ticks(x, 2);
        x.deliver(0);
        Drive.dropAll(x);
        Check.due("an ACK and a flight", Drive.ticks(x, 2), 5);
        Check.due("the client's ACK", x.record(0), 120000);
        Check.due("the server's ANSWER", x.record(1), 1000002);
        x = Drive.clientDoneSent(0, 24);
        Drive.dropAll(x);
        Check.due("both send again", Drive.ticks(x, 4), 5);
        Check.due("the client's DONE", x.record(0), 20001);
        Check.due("the server's ANSWER", x.record(1), 1000002);
        x = Drive.flightSent(0, 24);
        x.drop(0);
        Drive.copyUntil(x, 0, 59);
        Drive.ticks(x, 4);
        Check.due("the one place is the client's", x.record(59), 2);
    }

    private static void anAckIsSentWhenItIsDue() {
        Counted x = Drive.flightSent(0, 24);
        x.deliver(0);
        Check.due("not at once", x.waiting(), 3);
        Check.due("not one tick later", x.tick(), 0);
        Check.due("waiting", x.waiting(), 3);
        Check.due("two ticks later", x.tick(), 1);
        Check.due("an ACK", x.record(3), 120000);
        Check.due("behind the others", x.waiting(), 4);
    }

    private static void anAckIsDueNoMoreWhenItIsSent() {
        Counted x = Drive.flightSent(0, 24);
        Drive.ticks(x, 4);
        x.deliver(0);
        Check.due("one ACK", Drive.ticks(x, 2), 1);
        Check.due("no other", Drive.ticks(x, 5), 0);
        x.deliver(0);
        Check.due("but the next piece has one, with the server's flight", Drive.ticks(x, 2), 5);
    }

    private static void anAckIsDueNoMoreWhenTheStateChanges() {
        for (int ticks = 0; ticks < 2; ticks++) {
            Counted x = Drive.flightSent(0, 24);
            for (int i = 0; i < 3; i++) {
                x.deliver(0);
            }
            Drive.ticks(x, ticks);
            x.deliver(0);
            Check.due("the client's DONE", x.state(0), 3);
            Check.due("alone", x.waiting(), 1);
            Check.due("no ACK after " + ticks, Drive.ticks(x, 3 - ticks), 0);
            x.deliver(0);
            x.deliver(0);
            Check.due("the client", x.state(0), 4);
            Check.due("nor later", Drive.ticks(x, 100), 0);
        }
    }

    private static void nothingIsSentBetweenTicks() {
        Counted x = new Counted(0, 24);
        x.start();
        Drive.ticks(x, 3);
        for (int i = 0; i < 10; i++) {
            x.start();
            x.send(0, 1);
            x.spoil(0);
            x.copy(0);
            x.drop(0);
            Check.due("waiting", x.waiting(), 1);
        }
        Check.due("the fourth tick", x.tick(), 1);
    }

    private static void states(String when, Counted x, int client, int server) {
        Check.due("the client, " + when, x.state(0), client);
        Check.due("the server, " + when, x.state(1), server);
    }

    private static void theStatesOfTheClient() {
        Counted x = new Counted(0, 24);
        states("new", x, 0, 0);
        x.start();
        states("HELLO", x, 1, 0);
        x.deliver(0);
        states("RETRY under way", x, 1, 0);
        x.deliver(0);
        states("HELLO AGAIN", x, 2, 0);
        x.deliver(0);
        for (int i = 0; i < 4; i++) {
            states("before piece " + i, x, 2, 1);
            x.deliver(0);
        }
        states("DONE", x, 3, 1);
        x.deliver(0);
        states("an ACK under way", x, 3, 2);
        x.deliver(0);
        states("an ACK", x, 4, 2);
        x = Drive.clientDoneSent(0, 24);
        Drive.ticks(x, 156);
        states("both failed", x, 5, 5);
    }

    private static void theStatesOfTheServer() {
        Counted x = new Counted(0, 24);
        x.start();
        x.copy(0);
        x.deliver(0);
        x.deliver(0);
        states("two HELLOs", x, 1, 0);
        x.deliver(0);
        x.deliver(1);
        states("HELLO AGAIN", x, 2, 1);
        Drive.ticks(x, 155);
        states("before the end", x, 2, 1);
        x.tick();
        states("at the end", x, 5, 5);
        x = Drive.through(0, 24);
        Drive.ticks(x, 300);
        states("both through", x, 4, 2);
    }
}
