import java.util.ArrayDeque;
import java.util.ArrayList;
import java.util.Arrays;
import java.util.Deque;
import java.util.HashMap;
import java.util.HashSet;
import java.util.List;
import java.util.Map;
import java.util.Set;
import java.util.TreeMap;

/** The document once more, with the Java library, a clock that counts up, and sets that forget nothing. */
final class Model {
    record Name(int epoch, int number) { }

    record Piece(int message, int epoch, int offset, List<Integer> bytes) { }

    static final class Rec {
        int from;
        Name name;
        Piece piece;
        List<Name> ack;
        Integer data;
        boolean spoilt;

        Rec like() {
            Rec r = new Rec();
            r.from = from;
            r.name = name;
            r.piece = piece;
            r.ack = ack;
            r.data = data;
            r.spoilt = spoilt;
            return r;
        }
    }

    static final class Party {
        int state;
        int transcript;
        final Map<Integer, Set<Integer>> letIn = new HashMap<>();
        final Map<Integer, Integer> numbers = new HashMap<>();
        final Set<Integer> writes = new HashSet<>(Set.of(0));
        final Set<Integer> reads = new HashSet<>(Set.of(0));
        final Map<Piece, Set<Name>> flight = new java.util.LinkedHashMap<>();
        final Deque<Name> noted = new ArrayDeque<>();
        final List<Integer> values = new ArrayList<>();
        int again;
        int nextAgain;
        int pause;
        Integer ackAt;
    }

    final int seed;
    final int mtu;
    final Contents contents;
    final Party[] parties = {new Party(), new Party()};
    final List<Rec> net = new ArrayList<>();
    final TreeMap<Integer, TreeMap<Integer, Integer>> pieces = new TreeMap<>();
    final byte[][] serverMessages;
    int takenUpTo = 0;
    int lost;
    int sent;
    int clock;

    Model(int seed, int mtu) {
        this.seed = seed;
        this.mtu = mtu < 8 ? 8 : mtu > 24 ? 24 : mtu;
        contents = new Contents(seed);
        serverMessages = new byte[][] {contents.retry, contents.answer, contents.terms, contents.proof,
            contents.serverDone};
    }

    private void put(Rec r) {
        sent++;
        if (net.size() == 60) {
            lost++;
        } else {
            net.add(r);
        }
    }

    private Name newName(int side, int epoch) {
        int number = parties[side].numbers.merge(epoch, 1, Integer::sum) - 1;
        return new Name(epoch, number);
    }

    private void sendPiece(int side, Piece piece, Name name) {
        Rec r = new Rec();
        r.from = side;
        r.name = name;
        r.piece = piece;
        put(r);
    }

    private List<Piece> cut(int message, int epoch, byte[] whole) {
        List<Piece> out = new ArrayList<>();
        for (int at = 0; at < whole.length; at += mtu) {
            List<Integer> bytes = new ArrayList<>();
            for (byte b : Arrays.copyOfRange(whole, at, Math.min(whole.length, at + mtu))) {
                bytes.add(b & 255);
            }
            out.add(new Piece(message, epoch, at, bytes));
        }
        return out;
    }

    private void hear(int side, byte[] message) {
        for (byte b : message) {
            parties[side].transcript = parties[side].transcript * 31 + (b & 255) + 1;
        }
    }

    private void care(int side, List<Piece> flight) {
        Party p = parties[side];
        p.flight.clear();
        for (Piece piece : flight) {
            p.flight.put(piece, new HashSet<>());
        }
        p.again = 0;
        p.pause = 4;
        p.nextAgain = clock + 4;
        sendOpen(side);
    }

    private void sendOpen(int side) {
        parties[side].flight.forEach((piece, names) -> {
            Name name = newName(side, piece.epoch());
            names.add(name);
            sendPiece(side, piece, name);
        });
    }

    private void become(int side, int state) {
        parties[side].state = state;
        parties[side].ackAt = null;
    }

    private void sendAck(int side) {
        Party p = parties[side];
        Rec r = new Rec();
        r.from = side;
        r.name = newName(side, p.writes.stream().max(Integer::compare).get());
        r.ack = p.noted.stream().limit(8).toList();
        put(r);
    }

    boolean start() {
        if (parties[0].state != 0) {
            return false;
        }
        hear(0, contents.hello);
        care(0, cut(0, 0, contents.hello));
        become(0, 1);
        return true;
    }

    int tick() {
        int before = sent;
        clock++;
        for (int side = 0; side < 2; side++) {
            Party p = parties[side];
            if (p.ackAt != null && p.ackAt == clock) {
                p.ackAt = null;
                sendAck(side);
            }
            if (!p.flight.isEmpty() && p.nextAgain == clock) {
                p.again++;
                if (p.again == 7) {
                    p.flight.clear();
                    become(side, 5);
                } else {
                    sendOpen(side);
                    p.pause = Math.min(32, p.pause * 2);
                    p.nextAgain = clock + p.pause;
                }
            }
        }
        return sent - before;
    }

    boolean send(int side, int value) {
        if (noSide(side) || !parties[side].writes.contains(3) || parties[side].state == 5) {
            return false;
        }
        Rec r = new Rec();
        r.from = side;
        r.name = newName(side, 3);
        r.data = value;
        put(r);
        return true;
    }

    private boolean none(int i) {
        return i < 0 || i >= net.size();
    }

    int deliver(int i) {
        if (none(i)) {
            return -1;
        }
        Rec r = net.remove(i);
        int side = 1 - r.from;
        Party p = parties[side];
        if (r.spoilt || p.state == 5 || !p.reads.contains(r.name.epoch()) || isOld(p, r.name)) {
            return 0;
        }
        boolean hello = side == 1 && r.piece != null && r.piece.message() == 0;
        boolean helloAgain = side == 1 && r.piece != null && r.piece.message() == 1;
        if (hello) {
            sendPiece(1, cut(0, 0, contents.retry).get(0), r.name);
        }
        if (side == 1 && p.state == 0 && !helloAgain) {
            return 0;
        }
        p.letIn.computeIfAbsent(r.name.epoch(), e -> new HashSet<>()).add(r.name.number());
        if (r.ack != null) {
            boolean some = !p.flight.isEmpty();
            p.flight.values().removeIf(names -> names.stream().anyMatch(r.ack::contains));
            if (side == 0 && p.state == 3 && some && p.flight.isEmpty()) {
                become(0, 4);
            }
        } else if (r.data != null) {
            if (p.values.size() < 60) {
                p.values.add(r.data);
            }
        } else if (side == 0) {
            atClient(p, r);
        } else {
            atServer(p, r);
        }
        return 1;
    }

    private static boolean isOld(Party p, Name name) {
        Set<Integer> in = p.letIn.getOrDefault(name.epoch(), Set.of());
        return in.contains(name.number()) || in.stream().anyMatch(n -> n - name.number() >= 16);
    }

    private void atClient(Party p, Rec r) {
        int message = r.piece.message();
        if (message == 0 && p.state == 1) {
            hear(0, contents.retry);
            hear(0, contents.helloAgain);
            care(0, cut(1, 0, contents.helloAgain));
            become(0, 2);
        } else if (message != 0 && p.state == 2) {
            p.flight.clear();
            p.noted.addFirst(r.name);
            TreeMap<Integer, Integer> there = pieces.computeIfAbsent(message, m -> new TreeMap<>());
            for (int k = 0; k < r.piece.bytes().size(); k++) {
                there.put(r.piece.offset() + k, r.piece.bytes().get(k));
            }
            while (takenUpTo < 4
                    && pieces.getOrDefault(takenUpTo + 1, new TreeMap<>()).size() == serverMessages[takenUpTo + 1].length) {
                takenUpTo++;
                for (int b : pieces.get(takenUpTo).values()) {
                    p.transcript = p.transcript * 31 + b + 1;
                }
                if (takenUpTo == 1) {
                    p.writes.add(2);
                    p.reads.add(2);
                }
            }
            if (takenUpTo == 4) {
                p.reads.add(3);
                care(0, cut(2, 2, contents.clientDone));
                hear(0, contents.clientDone);
                p.writes.add(3);
                become(0, 3);
            } else {
                p.ackAt = clock + 2;
            }
        }
    }

    private void atServer(Party p, Rec r) {
        int message = r.piece.message();
        if (message == 1 && p.state == 0) {
            hear(1, contents.hello);
            hear(1, contents.retry);
            hear(1, contents.helloAgain);
            p.numbers.put(0, r.name.number());
            p.writes.add(2);
            p.reads.add(2);
            List<Piece> all = new ArrayList<>(cut(1, 0, contents.answer));
            all.addAll(cut(2, 2, contents.terms));
            all.addAll(cut(3, 2, contents.proof));
            all.addAll(cut(4, 2, contents.serverDone));
            hear(1, contents.answer);
            hear(1, contents.terms);
            hear(1, contents.proof);
            hear(1, contents.serverDone);
            care(1, all);
            become(1, 1);
        } else if (message == 2 && (p.state == 1 || p.state == 2)) {
            if (p.state == 1) {
                hear(1, contents.clientDone);
                p.flight.clear();
                p.writes.add(3);
                p.reads.add(3);
                become(1, 2);
            }
            p.noted.addFirst(r.name);
            sendAck(1);
        }
    }

    boolean drop(int i) {
        if (none(i)) {
            return false;
        }
        net.remove(i);
        return true;
    }

    boolean copy(int i) {
        return !none(i) && net.size() < 60 && net.add(net.get(i).like());
    }

    boolean spoil(int i) {
        if (none(i)) {
            return false;
        }
        net.get(i).spoilt = true;
        return true;
    }

    int record(int i) {
        if (none(i)) {
            return -1;
        }
        Rec r = net.get(i);
        int kind = r.piece != null ? 0 : r.ack != null ? 1 : 2;
        return 1000000 * r.from + 100000 * kind + 10000 * r.name.epoch() + r.name.number() % 10000;
    }

    int content(int i) {
        if (none(i)) {
            return -1;
        }
        Rec r = net.get(i);
        if (r.piece != null) {
            return 10000 * r.piece.message() + 100 * r.piece.offset() + r.piece.bytes().size();
        }
        return r.ack != null ? r.ack.size() : 0;
    }

    int byteOf(int i, int k) {
        boolean has = !none(i) && net.get(i).piece != null && k >= 0 && k < net.get(i).piece.bytes().size();
        return has ? net.get(i).piece.bytes().get(k) : -1;
    }

    boolean noSide(int side) {
        return side < 0 || side > 1;
    }

    int state(int side) {
        return noSide(side) ? -1 : parties[side].state;
    }

    int transcript(int side) {
        return noSide(side) ? 0 : parties[side].transcript;
    }

    int open(int side) {
        return noSide(side) ? -1 : parties[side].flight.size();
    }

    int kept(int side) {
        if (noSide(side)) {
            return -1;
        }
        return side == 1 ? 0 : pieces.tailMap(takenUpTo + 1).values().stream().mapToInt(Map::size).sum();
    }

    int received(int side) {
        return noSide(side) ? -1 : parties[side].values.size();
    }

    int value(int side, int i) {
        return noSide(side) || i < 0 || i >= parties[side].values.size() ? 0 : parties[side].values.get(i);
    }
}
