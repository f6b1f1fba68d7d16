/** A client and a server that shake hands over a net that loses, copies, reorders and spoils records. */
public final class LossyHandshake {
    public static final int BAD = -1;

    private static final int CLIENT = 0;
    private static final int SERVER = 1;

    private static final int FAILED = 5;
    private static final int CLIENT_NEW = 0;
    private static final int HELLO_SENT = 1;
    private static final int HELLO_AGAIN_SENT = 2;
    private static final int CLIENT_DONE_SENT = 3;
    private static final int CLIENT_DONE_ACKNOWLEDGED = 4;
    private static final int SERVER_NEW = 0;
    private static final int FLIGHT_SENT = 1;
    private static final int CLIENT_DONE_TAKEN = 2;

    private static final int HELLO = 0;
    private static final int HELLO_AGAIN = 1;
    private static final int CLIENT_DONE = 2;
    private static final int RETRY = 0;
    private static final int ANSWER = 1;
    private static final int TERMS = 2;
    private static final int PROOF = 3;
    private static final int SERVER_DONE = 4;

    private static final int INT_BYTES = 4;
    private static final int HELLO_BYTES = 8;
    private static final int TERMS_BYTES = 6;
    private static final int PROOF_LEAST_BYTES = 12;
    private static final int PROOF_SEED_MASK = 31;

    private static final int FRAGMENT = 0;
    private static final int ACK = 1;
    private static final int DATA = 2;

    private static final int PLAIN_EPOCH = 0;
    private static final int HANDSHAKE_EPOCH = 2;
    private static final int DATA_EPOCH = 3;
    private static final int EPOCHS = 4;

    private static final int MTU_LEAST = 8;
    private static final int MTU_MOST = 24;
    private static final int NET_ROOM = 60;
    private static final int VALUE_ROOM = 60;
    private static final int ACK_ROOM = 8;
    private static final int WINDOW_SIZE = 16;
    /** The server's flight in the smallest pieces: ANSWER, TERMS and DONE whole, 43 bytes of PROOF in six. */
    private static final int SERVER_FRAGMENTS = 9;

    private static final int FIRST_WAIT = 4;
    private static final int LONGEST_WAIT = 32;
    private static final int MOST_RESENDS = 6;
    private static final int ACK_DELAY = 2;

    private static final int MISSING = -1;

    private final Net net;
    private final Client client;
    private final Server server;

    public LossyHandshake(int seed, int mtu) {
        int pieceSize = Math.max(MTU_LEAST, Math.min(MTU_MOST, mtu));
        net = new Net();
        client = new Client(seed, pieceSize, net);
        server = new Server(seed, pieceSize, net);
    }

    public boolean start() {
        if (client.state != CLIENT_NEW) {
            return false;
        }
        client.sendHello();
        return true;
    }

    public int tick() {
        int sentBefore = net.sentCount;
        client.passTick();
        server.passTick();
        return net.sentCount - sentBefore;
    }

    public boolean send(int side, int value) {
        return isSide(side) && sideOf(side).sendData(value);
    }

    public int deliver(int i) {
        if (!net.has(i)) {
            return BAD;
        }
        NetRecord taken = net.takeOut(i);
        Side receiver = taken.from == CLIENT ? server : client;
        return receiver.accept(taken) ? 1 : 0;
    }

    public boolean drop(int i) {
        if (!net.has(i)) {
            return false;
        }
        net.takeOut(i);
        return true;
    }

    public boolean copy(int i) {
        return net.has(i) && net.appendLike(i);
    }

    public boolean spoil(int i) {
        if (!net.has(i)) {
            return false;
        }
        net.rows[i].isSpoilt = true;
        return true;
    }

    public int waiting() {
        return net.count;
    }

    public int lost() {
        return net.lostCount;
    }

    public int record(int i) {
        return net.has(i) ? net.rows[i].headline() : BAD;
    }

    public int content(int i) {
        return net.has(i) ? net.rows[i].summary() : BAD;
    }

    public int byteOf(int i, int k) {
        return net.has(i) ? net.rows[i].fragmentByte(k) : BAD;
    }

    public int state(int side) {
        return isSide(side) ? sideOf(side).state : BAD;
    }

    public int transcript(int side) {
        return isSide(side) ? sideOf(side).transcript : 0;
    }

    public int open(int side) {
        return isSide(side) ? sideOf(side).flight.countOpen() : BAD;
    }

    public int kept(int side) {
        if (!isSide(side)) {
            return BAD;
        }
        return side == CLIENT ? client.assembly.countUntaken() : 0;
    }

    public int received(int side) {
        return isSide(side) ? sideOf(side).valueCount : BAD;
    }

    public int value(int side, int i) {
        return isSide(side) ? sideOf(side).valueAt(i) : 0;
    }

    private static boolean isSide(int side) {
        return side == CLIENT || side == SERVER;
    }

    private Side sideOf(int side) {
        return side == CLIENT ? client : server;
    }

    private static int mix(int a, int b) {
        int x = (a * 31 + b) * 739982445;
        return x ^ (x >>> 15);
    }

    private static int clientNumber(int seed) {
        return mix(seed, 1);
    }

    private static int serverSecret(int seed) {
        return mix(seed, 2);
    }

    private static int proofLength(int seed) {
        return PROOF_LEAST_BYTES + (seed & PROOF_SEED_MASK);
    }

    /** One int for the epoch and the number of a record, as an ACK names it. */
    private static int nameOf(int epoch, int number) {
        return number * EPOCHS + epoch;
    }

    /** A message with its whole content, one byte (0 to 255) in each element. */
    private static final class Message {
        final int number;
        final int epoch;
        final int[] bytes;

        Message(int number, int epoch, int length) {
            this.number = number;
            this.epoch = epoch;
            this.bytes = new int[length];
        }

        void writeInt(int start, int written) {
            for (int i = 0; i < INT_BYTES && start + i < bytes.length; i++) {
                bytes[start + i] = written >>> (8 * i) & 255;
            }
        }

        void writeMixes(int key) {
            for (int i = 0; i < bytes.length; i++) {
                bytes[i] = mix(key, i) & 255;
            }
        }
    }

    /** A piece of a message of a flight, with the records that it went out in. */
    private static final class Fragment {
        final int[] bytes = new int[MTU_MOST];
        final int[] sentIn = new int[1 + MOST_RESENDS];
        int message;
        int epoch;
        int offset;
        int length;
        int sendings;
        boolean isOpen;

        void cutFrom(Message whole, int start, int mtu) {
            message = whole.number;
            epoch = whole.epoch;
            offset = start;
            length = Math.min(Math.min(mtu, bytes.length), whole.bytes.length - start);
            for (int i = 0; i < length; i++) {
                bytes[i] = whole.bytes[start + i];
            }
            sendings = 0;
            isOpen = true;
        }

        void rememberSending(int number) {
            if (sendings < sentIn.length) {
                sentIn[sendings] = nameOf(epoch, number);
                sendings++;
            }
        }

        boolean wasSentIn(int name) {
            for (int i = 0; i < sendings; i++) {
                if (sentIn[i] == name) {
                    return true;
                }
            }
            return false;
        }
    }

    /** The fragments that a side cares for, none at times, and how long it waits before it sends them again. */
    private static final class Flight {
        final Fragment[] fragments;
        int count;
        int waitLength;
        int ticksLeft;
        int resends;

        Flight(int room) {
            fragments = new Fragment[room];
            for (int i = 0; i < room; i++) {
                fragments[i] = new Fragment();
            }
        }

        void forget() {
            count = 0;
        }

        void begin() {
            count = 0;
            waitLength = FIRST_WAIT;
            ticksLeft = FIRST_WAIT;
            resends = 0;
        }

        void add(Message whole, int mtu) {
            for (int start = 0; start < whole.bytes.length && count < fragments.length; start += mtu) {
                fragments[count].cutFrom(whole, start, mtu);
                count++;
            }
        }

        void waitTwiceAsLong() {
            waitLength = Math.min(2 * waitLength, LONGEST_WAIT);
            ticksLeft = waitLength;
            resends++;
        }

        /** Lets one tick go by; true when that was the last one to wait for. */
        boolean hasWaited() {
            if (countOpen() == 0) {
                return false;
            }
            ticksLeft--;
            return ticksLeft <= 0;
        }

        int countOpen() {
            int open = 0;
            for (int i = 0; i < count; i++) {
                if (fragments[i].isOpen) {
                    open++;
                }
            }
            return open;
        }

        void closeSentIn(int name) {
            for (int i = 0; i < count; i++) {
                if (fragments[i].wasSentIn(name)) {
                    fragments[i].isOpen = false;
                }
            }
        }
    }

    /** A record on its way; its load is a fragment's bytes, an ACK's names or the one value of DATA. */
    private static final class NetRecord {
        final int[] load = new int[MTU_MOST];
        int length;
        int from;
        int kind;
        int epoch;
        int number;
        int message;
        int offset;
        boolean isSpoilt;

        void address(int sender, int newKind, int newEpoch, int newNumber) {
            from = sender;
            kind = newKind;
            epoch = newEpoch;
            number = newNumber;
            message = 0;
            offset = 0;
            length = 0;
            isSpoilt = false;
        }

        void markAsPiece(int ofMessage, int atOffset) {
            message = ofMessage;
            offset = atOffset;
        }

        void hold(int[] numbers, int numberCount) {
            length = Math.min(Math.min(numberCount, numbers.length), load.length);
            for (int i = 0; i < length; i++) {
                load[i] = numbers[i];
            }
        }

        void holdValue(int value) {
            load[0] = value;
            length = 1;
        }

        void becomeLike(NetRecord other) {
            address(other.from, other.kind, other.epoch, other.number);
            markAsPiece(other.message, other.offset);
            hold(other.load, other.length);
            isSpoilt = other.isSpoilt;
        }

        boolean isPieceOf(int ofMessage) {
            return kind == FRAGMENT && message == ofMessage;
        }

        int name() {
            return nameOf(epoch, number);
        }

        int headline() {
            return 1000000 * from + 100000 * kind + 10000 * epoch + number % 10000;
        }

        int summary() {
            switch (kind) {
                case FRAGMENT:
                    return 10000 * message + 100 * offset + length;
                case ACK:
                    return length;
                default:
                    return 0;
            }
        }

        int fragmentByte(int k) {
            return kind == FRAGMENT && k >= 0 && k < length ? load[k] : BAD;
        }

        int readFirstInt() {
            int read = 0;
            for (int i = 0; i < INT_BYTES; i++) {
                read |= load[i] << (8 * i);
            }
            return read;
        }
    }

    /** The records under way, in order. All rows are made once and used again. */
    private static final class Net {
        final NetRecord[] rows = new NetRecord[NET_ROOM];
        /** The record taken out last has a row of its own, as records are sent while it is being read. */
        NetRecord takenRow = new NetRecord();
        /** Takes what is sent while the net is full, so that senders need not ask. */
        final NetRecord lostRow = new NetRecord();
        int count;
        int lostCount;
        int sentCount;

        Net() {
            for (int i = 0; i < rows.length; i++) {
                rows[i] = new NetRecord();
            }
        }

        boolean has(int i) {
            return i >= 0 && i < count;
        }

        /** Puts a record behind all others and answers its row, for the sender to load. */
        NetRecord append(int from, int kind, int epoch, int number) {
            sentCount++;
            NetRecord row = lostRow;
            if (count < rows.length) {
                row = rows[count];
                count++;
            } else {
                lostCount++;
            }
            row.address(from, kind, epoch, number);
            return row;
        }

        boolean appendLike(int i) {
            if (count >= rows.length) {
                return false;
            }
            rows[count].becomeLike(rows[i]);
            count++;
            return true;
        }

        NetRecord takeOut(int i) {
            NetRecord out = rows[i];
            count--;
            for (int k = i; k < count; k++) {
                rows[k] = rows[k + 1];
            }
            rows[count] = takenRow;
            takenRow = out;
            return out;
        }
    }

    /** Which numbers of one epoch were let in. */
    private static final class Window {
        int greatest = -1;
        /** Bit d tells whether the number that is less than the greatest by d was let in. */
        int seen;

        boolean isOld(int number) {
            int behind = greatest - number;
            return behind >= 0 && (behind >= WINDOW_SIZE || (seen >>> behind & 1) == 1);
        }

        void letIn(int number) {
            int ahead = number - greatest;
            if (ahead <= 0) {
                seen |= 1 << -ahead;
            } else {
                seen = ahead >= WINDOW_SIZE ? 1 : seen << ahead | 1;
                greatest = number;
            }
        }
    }

    /** The names of the records that a side noted, the latest first; an ACK has no room for more. */
    private static final class Noted {
        final int[] names = new int[ACK_ROOM];
        int count;

        void add(int name) {
            if (count < names.length) {
                count++;
            }
            for (int i = count - 1; i > 0; i--) {
                names[i] = names[i - 1];
            }
            names[0] = name;
        }
    }

    /** The server's flight at the client, all its messages one behind the other in a row. */
    private static final class Assembly {
        /** Message m lies from starts[m] to before starts[m + 1]. */
        final int[] starts = new int[SERVER_DONE + 2];
        final int[] bytes;
        int next = ANSWER;

        Assembly(int proofBytes) {
            starts[TERMS] = INT_BYTES;
            starts[PROOF] = starts[TERMS] + TERMS_BYTES;
            starts[SERVER_DONE] = starts[PROOF] + proofBytes;
            starts[SERVER_DONE + 1] = starts[SERVER_DONE] + INT_BYTES;
            bytes = new int[starts[SERVER_DONE + 1]];
            for (int i = 0; i < bytes.length; i++) {
                bytes[i] = MISSING;
            }
        }

        void put(NetRecord piece) {
            int start = startOf(piece.message) + piece.offset;
            for (int i = 0; i < piece.length && start + i < bytes.length; i++) {
                bytes[start + i] = piece.load[i];
            }
        }

        int startOf(int message) {
            return message >= 0 && message < starts.length ? starts[message] : bytes.length;
        }

        boolean isWhole() {
            return next > SERVER_DONE;
        }

        boolean hasNextMessage() {
            int end = startOf(next + 1);
            for (int i = startOf(next); i < end; i++) {
                if (bytes[i] == MISSING) {
                    return false;
                }
            }
            return !isWhole();
        }

        int countUntaken() {
            int there = 0;
            for (int i = startOf(next); i < bytes.length; i++) {
                if (bytes[i] != MISSING) {
                    there++;
                }
            }
            return there;
        }
    }

    /** What both sides do alike. */
    private abstract static class Side {
        final int self;
        final int mtu;
        final Net net;
        final Flight flight;
        final Noted noted = new Noted();
        final Window[] windows = new Window[EPOCHS];
        final int[] nextNumbers = new int[EPOCHS];
        final int[] values = new int[VALUE_ROOM];
        int valueCount;
        int state;
        int transcript;
        /** The greatest epochs; a side that writes or reads one does so with all lesser ones. */
        int writes = PLAIN_EPOCH;
        int reads = PLAIN_EPOCH;
        /** Ticks until an ACK is due; 0 if none is. */
        int ackDueIn;

        Side(int self, int mtu, Net net, int flightRoom) {
            this.self = self;
            this.mtu = mtu;
            this.net = net;
            this.flight = new Flight(flightRoom);
            for (int i = 0; i < windows.length; i++) {
                windows[i] = new Window();
            }
        }

        /** Answers whether the record was let in. */
        abstract boolean accept(NetRecord arrived);

        void enter(int newState) {
            state = newState;
            ackDueIn = 0;
        }

        void addBytesToTranscript(int[] bytes, int start, int end) {
            for (int i = start; i < end && i < bytes.length; i++) {
                transcript = transcript * 31 + bytes[i] + 1;
            }
        }

        void addToTranscript(Message whole) {
            addBytesToTranscript(whole.bytes, 0, whole.bytes.length);
        }

        boolean throwsAway(NetRecord arrived) {
            return arrived.isSpoilt || state == FAILED || arrived.epoch > reads
                    || windows[arrived.epoch].isOld(arrived.number);
        }

        void letIn(NetRecord arrived) {
            windows[arrived.epoch].letIn(arrived.number);
        }

        int takeNumber(int epoch) {
            int number = nextNumbers[epoch];
            nextNumbers[epoch] = number + 1;
            return number;
        }

        boolean sendData(int value) {
            if (writes < DATA_EPOCH || state == FAILED) {
                return false;
            }
            net.append(self, DATA, DATA_EPOCH, takeNumber(DATA_EPOCH)).holdValue(value);
            return true;
        }

        void keepValue(int value) {
            if (valueCount < values.length) {
                values[valueCount] = value;
                valueCount++;
            }
        }

        int valueAt(int i) {
            return i >= 0 && i < valueCount ? values[i] : 0;
        }

        void sendAck() {
            net.append(self, ACK, writes, takeNumber(writes)).hold(noted.names, noted.count);
        }

        void closeNamed(NetRecord ack) {
            for (int i = 0; i < ack.length; i++) {
                flight.closeSentIn(ack.load[i]);
            }
        }

        void sendOpenFragments() {
            for (int i = 0; i < flight.count; i++) {
                Fragment piece = flight.fragments[i];
                if (piece.isOpen) {
                    int number = takeNumber(piece.epoch);
                    piece.rememberSending(number);
                    NetRecord row = net.append(self, FRAGMENT, piece.epoch, number);
                    row.markAsPiece(piece.message, piece.offset);
                    row.hold(piece.bytes, piece.length);
                }
            }
        }

        void passTick() {
            if (ackDueIn > 0) {
                ackDueIn--;
                if (ackDueIn == 0) {
                    sendAck();
                }
            }
            if (flight.hasWaited()) {
                sendAgainOrFail();
            }
        }

        void sendAgainOrFail() {
            if (flight.resends >= MOST_RESENDS) {
                flight.forget();
                enter(FAILED);
            } else {
                sendOpenFragments();
                flight.waitTwiceAsLong();
            }
        }
    }

    private static final class Client extends Side {
        final int ownNumber;
        final Message hello = new Message(HELLO, PLAIN_EPOCH, HELLO_BYTES);
        final Message helloAgain = new Message(HELLO_AGAIN, PLAIN_EPOCH, HELLO_BYTES);
        final Message done = new Message(CLIENT_DONE, HANDSHAKE_EPOCH, INT_BYTES);
        final Assembly assembly;

        Client(int seed, int mtu, Net net) {
            super(CLIENT, mtu, net, 1);
            ownNumber = clientNumber(seed);
            assembly = new Assembly(proofLength(seed));
        }

        void sendHello() {
            hello.writeInt(0, ownNumber);
            sendFlight(hello);
            enter(HELLO_SENT);
        }

        void sendFlight(Message whole) {
            addToTranscript(whole);
            flight.begin();
            flight.add(whole, mtu);
            sendOpenFragments();
        }

        boolean accept(NetRecord arrived) {
            if (throwsAway(arrived)) {
                return false;
            }
            letIn(arrived);
            if (arrived.kind == ACK) {
                takeAck(arrived);
            } else if (arrived.kind == DATA) {
                keepValue(arrived.load[0]);
            } else if (arrived.message == RETRY) {
                takeRetry(arrived);
            } else if (state == HELLO_AGAIN_SENT) {
                takeFlightPiece(arrived);
                answerFlight();
            }
            return true;
        }

        void takeAck(NetRecord ack) {
            closeNamed(ack);
            if (state == CLIENT_DONE_SENT && flight.countOpen() == 0) {
                enter(CLIENT_DONE_ACKNOWLEDGED);
            }
        }

        void takeRetry(NetRecord retry) {
            if (state != HELLO_SENT) {
                return;
            }
            addBytesToTranscript(retry.load, 0, retry.length);
            helloAgain.writeInt(0, ownNumber);
            helloAgain.writeInt(INT_BYTES, retry.readFirstInt());
            sendFlight(helloAgain);
            enter(HELLO_AGAIN_SENT);
        }

        void takeFlightPiece(NetRecord piece) {
            flight.forget();
            assembly.put(piece);
            noted.add(piece.name());
            for (int m = ANSWER; m <= SERVER_DONE && assembly.hasNextMessage(); m++) {
                takeNextMessage();
            }
        }

        void takeNextMessage() {
            int message = assembly.next;
            addBytesToTranscript(assembly.bytes, assembly.startOf(message), assembly.startOf(message + 1));
            assembly.next = message + 1;
            if (message == ANSWER) {
                writes = HANDSHAKE_EPOCH;
                reads = HANDSHAKE_EPOCH;
            }
        }

        void answerFlight() {
            if (!assembly.isWhole()) {
                ackDueIn = ACK_DELAY;
                return;
            }
            reads = DATA_EPOCH;
            done.writeInt(0, mix(transcript, 1));
            sendFlight(done);
            writes = DATA_EPOCH;
            enter(CLIENT_DONE_SENT);
        }
    }

    private static final class Server extends Side {
        final int secret;
        final Message retry = new Message(RETRY, PLAIN_EPOCH, INT_BYTES);
        final Message answer = new Message(ANSWER, PLAIN_EPOCH, INT_BYTES);
        final Message terms = new Message(TERMS, HANDSHAKE_EPOCH, TERMS_BYTES);
        final Message proof;
        final Message done = new Message(SERVER_DONE, HANDSHAKE_EPOCH, INT_BYTES);

        Server(int seed, int mtu, Net net) {
            super(SERVER, mtu, net, SERVER_FRAGMENTS);
            secret = serverSecret(seed);
            proof = new Message(PROOF, HANDSHAKE_EPOCH, proofLength(seed));
        }

        boolean accept(NetRecord arrived) {
            if (throwsAway(arrived)) {
                return false;
            }
            if (arrived.isPieceOf(HELLO)) {
                sendRetry(arrived);
            }
            if (state == SERVER_NEW && !arrived.isPieceOf(HELLO_AGAIN)) {
                return false;
            }
            letIn(arrived);
            if (arrived.kind == ACK) {
                closeNamed(arrived);
            } else if (arrived.kind == DATA) {
                keepValue(arrived.load[0]);
            } else if (arrived.message == HELLO_AGAIN) {
                takeHelloAgain(arrived);
            } else if (arrived.message == CLIENT_DONE) {
                takeClientDone(arrived);
            }
            return true;
        }

        void sendRetry(NetRecord hello) {
            retry.writeInt(0, mix(secret, hello.readFirstInt()));
            NetRecord row = net.append(self, FRAGMENT, PLAIN_EPOCH, hello.number);
            row.markAsPiece(RETRY, 0);
            row.hold(retry.bytes, retry.bytes.length);
        }

        void takeHelloAgain(NetRecord helloAgain) {
            if (state != SERVER_NEW) {
                return;
            }
            addFirstThreeToTranscript(helloAgain);
            nextNumbers[PLAIN_EPOCH] = helloAgain.number;
            writes = HANDSHAKE_EPOCH;
            reads = HANDSHAKE_EPOCH;
            workOutFlight(helloAgain.readFirstInt());
            sendOpenFragments();
            enter(FLIGHT_SENT);
        }

        /** The HELLO and the RETRY were not kept, but the HELLO AGAIN repeats all that was in them. */
        void addFirstThreeToTranscript(NetRecord helloAgain) {
            addBytesToTranscript(helloAgain.load, 0, INT_BYTES);
            for (int i = 0; i < INT_BYTES; i++) {
                transcript = transcript * 31 + 1;
            }
            addBytesToTranscript(helloAgain.load, INT_BYTES, HELLO_BYTES);
            addBytesToTranscript(helloAgain.load, 0, HELLO_BYTES);
        }

        void workOutFlight(int numberOfClient) {
            answer.writeInt(0, mix(secret + 1, numberOfClient));
            terms.writeMixes(numberOfClient);
            proof.writeMixes(secret + 2);
            addToTranscript(answer);
            addToTranscript(terms);
            addToTranscript(proof);
            done.writeInt(0, mix(transcript, 2));
            addToTranscript(done);
            flight.begin();
            flight.add(answer, mtu);
            flight.add(terms, mtu);
            flight.add(proof, mtu);
            flight.add(done, mtu);
        }

        void takeClientDone(NetRecord clientDone) {
            if (state == FLIGHT_SENT) {
                addBytesToTranscript(clientDone.load, 0, clientDone.length);
                flight.forget();
                writes = DATA_EPOCH;
                reads = DATA_EPOCH;
                enter(CLIENT_DONE_TAKEN);
            }
            noted.add(clientDone.name());
            sendAck();
        }
    }
}
