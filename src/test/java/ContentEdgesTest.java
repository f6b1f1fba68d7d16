import java.math.BigInteger;

/** The sentences on numbers, messages and transcripts that name an edge, each with a test of its own. */
public final class ContentEdgesTest {
    private static final BigInteger INTS = BigInteger.ONE.shiftLeft(32);
    private static final BigInteger FACTOR = BigInteger.valueOf(739982445);
    private static final int[] NUMBERS = {0, 1, -1, -2, -3, 127, 128, 255, 256, 0x7fff, 0x8000, 0x01020304, 0xfffefdfc,
        Integer.MAX_VALUE, Integer.MAX_VALUE - 1, Integer.MIN_VALUE, Integer.MIN_VALUE + 1};

    public static void main(String[] args) {
        Check.part("MIX(a, b) is .. as ints wrap", ContentEdgesTest::theMixWraps);
        Check.part("(>>> goes before ^.)", ContentEdgesTest::theShiftGoesFirst);
        Check.part("The BYTES of an int are four, the lowest first.", ContentEdgesTest::theLowestByteIsFirst);
        Check.part("HELLO: the bytes of R and four 0.", ContentEdgesTest::helloEndsWithFourZeros);
        Check.part("RETRY: those of the COOKIE, MIX(S, the number in the first four bytes of the HELLO).",
                ContentEdgesTest::retryHoldsTheCookie);
        Check.part("HELLO AGAIN: the bytes of R and the four bytes of the RETRY.",
                ContentEdgesTest::helloAgainRepeatsTheRetry);
        Check.part("ANSWER: the bytes of MIX(S + 1, that number).", ContentEdgesTest::answerStandsOnTheSecretAndOne);
        Check.part("TERMS: six bytes, byte i being MIX(that number, i) & 255.", ContentEdgesTest::termsAreSixBytes);
        Check.part("PROOF: 12 + (seed & 31) bytes", ContentEdgesTest::proofIsAsLongAsTheSeedSays);
        Check.part("PROOF: .. byte i being MIX(S + 2, i) & 255.", ContentEdgesTest::proofHoldsOnlyBytes);
        Check.part("THE TRANSCRIPT of a side is an int, 0 at first", ContentEdgesTest::theTranscriptIsZeroAtFirst);
        Check.part("makes it t * 31 + b + 1 for each byte b of the content in turn",
                ContentEdgesTest::theTranscriptWraps);
        Check.part("(for a DONE that is sent, after its content was worked out)",
                ContentEdgesTest::aDoneIsWorkedOutBeforeItCounts);
        Check.part("The server, which keeps nothing of a HELLO, works out the first three of them when it takes the "
                + "HELLO AGAIN.", ContentEdgesTest::theServerKeepsNothingOfAHello);
        Check.end();
    }

    /** MIX without a single int that wraps: the numbers are cut to 32 bits by hand. */
    private static int mix(int a, int b) {
        BigInteger x = BigInteger.valueOf(a).multiply(BigInteger.valueOf(31)).add(BigInteger.valueOf(b))
                .multiply(FACTOR).mod(INTS);
        return x.xor(x.shiftRight(15)).intValue();
    }

    /** The seed for which MIX(seed, b) is that number: each step of MIX undone, the last first. */
    private static int seedFor(int number, int b) {
        long mixed = number & 0xffffffffL;
        long x = mixed ^ mixed >>> 15 ^ mixed >>> 30;
        BigInteger product = BigInteger.valueOf(x).multiply(FACTOR.modInverse(INTS));
        return product.subtract(BigInteger.valueOf(b)).multiply(BigInteger.valueOf(31).modInverse(INTS)).mod(INTS)
                .intValue();
    }

    private static void holdsInt(String what, Counted x, int i, int k, int number) {
        long unsigned = number & 0xffffffffL;
        long[] due = {unsigned % 256, unsigned / 256 % 256, unsigned / 65536 % 256, unsigned / 16777216};
        for (int n = 0; n < 4; n++) {
            Check.due(what + ", byte " + (k + n), x.byteOf(i, k + n), due[n]);
        }
    }

    private static Counted started(int seed) {
        Counted x = new Counted(seed, 8);
        x.start();
        return x;
    }

    private static Counted retrySent(int seed) {
        Counted x = started(seed);
        x.deliver(0);
        return x;
    }

    private static void theMixWraps() {
        for (int seed : NUMBERS) {
            holdsInt("R of seed " + seed, started(seed), 0, 0, mix(seed, 1));
        }
        for (int r : NUMBERS) {
            int seed = seedFor(r, 1);
            Check.due("the test's own inverse", mix(seed, 1), r);
            holdsInt("R " + r, started(seed), 0, 0, r);
        }
    }

    private static void theShiftGoesFirst() {
        for (int b = 0; b < 32; b++) {
            int number = 1 << b;
            holdsInt("R of one bit " + b, started(seedFor(number, 1)), 0, 0, number);
            holdsInt("R of all bits but " + b, started(seedFor(~number, 1)), 0, 0, ~number);
        }
    }

    private static void theLowestByteIsFirst() {
        Counted x = started(seedFor(0x81ff7f01, 1));
        Check.due("first", x.byteOf(0, 0), 0x01);
        Check.due("second", x.byteOf(0, 1), 0x7f);
        Check.due("third", x.byteOf(0, 2), 0xff);
        Check.due("fourth", x.byteOf(0, 3), 0x81);
    }

    private static void helloEndsWithFourZeros() {
        for (int r : NUMBERS) {
            Counted x = started(seedFor(r, 1));
            Check.due("content", x.content(0), 8);
            holdsInt("the end", x, 0, 4, 0);
        }
    }

    private static void retryHoldsTheCookie() {
        for (int s : NUMBERS) {
            int seed = seedFor(s, 2);
            Counted x = retrySent(seed);
            Check.due("content", x.content(0), 4);
            holdsInt("S " + s, x, 0, 0, mix(s, mix(seed, 1)));
        }
        for (int r : NUMBERS) {
            int seed = seedFor(r, 1);
            holdsInt("R " + r, retrySent(seed), 0, 0, mix(mix(seed, 2), r));
        }
    }

    private static void helloAgainRepeatsTheRetry() {
        for (int r : NUMBERS) {
            int seed = seedFor(r, 1);
            Counted x = Drive.helloAgainSent(seed, 8);
            Check.due("content", x.content(0), 10008);
            holdsInt("R", x, 0, 0, r);
            holdsInt("the cookie", x, 0, 4, mix(mix(seed, 2), r));
        }
    }

    private static void answerStandsOnTheSecretAndOne() {
        for (int s : NUMBERS) {
            int seed = seedFor(s, 2);
            Counted x = Drive.flightSent(seed, 8);
            Check.due("content", x.content(0), 10004);
            holdsInt("S " + s, x, 0, 0, mix(s + 1, mix(seed, 1)));
        }
    }

    private static void termsAreSixBytes() {
        for (int r : NUMBERS) {
            Counted x = Drive.flightSent(seedFor(r, 1), 8);
            Check.due("content", x.content(1), 20006);
            for (int i = 0; i < 6; i++) {
                Check.due("R " + r + ", byte " + i, x.byteOf(1, i), mix(r, i) & 255);
            }
            Check.due("no seventh", x.byteOf(1, 6), LossyHandshake.BAD);
        }
    }

    private static void proofIsAsLongAsTheSeedSays() {
        int[][] due = {{0, 12}, {1, 13}, {11, 23}, {12, 24}, {13, 25}, {30, 42}, {31, 43}, {32, 12}, {33, 13}, {63, 43},
            {64, 12}, {-1, 43}, {-2, 42}, {-31, 13}, {-32, 12}, {-33, 43}, {Integer.MAX_VALUE, 43},
            {Integer.MIN_VALUE, 12}, {Integer.MIN_VALUE + 1, 13}};
        for (int[] row : due) {
            Counted x = Drive.flightSent(row[0], 24);
            int first = x.content(2) - 30000;
            Check.due("seed " + row[0] + ", first piece", first, Math.min(24, row[1]));
            int rest = row[1] > 24 ? x.content(3) - 32400 : 0;
            Check.due("seed " + row[0] + ", all bytes", first + rest, row[1]);
            Check.due("seed " + row[0] + ", pieces", x.waiting(), row[1] > 24 ? 5 : 4);
        }
    }

    private static void proofHoldsOnlyBytes() {
        for (int s : NUMBERS) {
            int seed = seedFor(s, 2);
            Counted x = Drive.flightSent(seed, 24);
            for (int i = 0; i < 12 + (seed & 31); i++) {
                Check.due("S " + s + ", byte " + i, x.byteOf(2 + i / 24, i % 24), mix(s + 2, i) & 255);
            }
        }
    }

    private static void theTranscriptIsZeroAtFirst() {
        for (int seed : NUMBERS) {
            Counted x = new Counted(seed, 8);
            Check.due("the client's", x.transcript(0), 0);
            Check.due("the server's", x.transcript(1), 0);
        }
    }

    /** The transcript of the bytes of a record that begins at t, without an int that wraps. */
    private static int heard(int t, Counted x, int i, int length) {
        BigInteger all = BigInteger.valueOf(t);
        for (int k = 0; k < length; k++) {
            all = all.multiply(BigInteger.valueOf(31)).add(BigInteger.valueOf(x.byteOf(i, k) + 1));
        }
        return all.intValue();
    }

    private static void theTranscriptWraps() {
        for (int r : NUMBERS) {
            Counted x = started(seedFor(r, 1));
            int t = heard(0, x, 0, 8);
            Check.due("HELLO", x.transcript(0), t);
            x.deliver(0);
            t = heard(t, x, 0, 4);
            x.deliver(0);
            t = heard(t, x, 0, 8);
            Check.due("RETRY and HELLO AGAIN", x.transcript(0), t);
            x.deliver(0);
            t = heard(t, x, 0, 4);
            x.deliver(0);
            Check.due("ANSWER", x.transcript(0), t);
            t = heard(t, x, 0, 6);
            x.deliver(0);
            Check.due("TERMS", x.transcript(0), t);
        }
    }

    private static void aDoneIsWorkedOutBeforeItCounts() {
        for (int seed : NUMBERS) {
            Counted x = Drive.flightSent(seed, 24);
            int pieces = x.waiting();
            for (int i = 0; i < pieces - 1; i++) {
                x.deliver(0);
            }
            int before = x.transcript(0);
            holdsInt("the server's DONE", x, 0, 0, mix(before, 2));
            int after = heard(before, x, 0, 4);
            Check.due("the server's transcript", x.transcript(1), after);
            x.deliver(0);
            holdsInt("the client's DONE", x, 0, 0, mix(after, 1));
            Check.due("the client's transcript", x.transcript(0), heard(after, x, 0, 4));
        }
    }

    private static void theServerKeepsNothingOfAHello() {
        for (int seed : NUMBERS) {
            Contents c = new Contents(seed);
            Counted x = started(seed);
            x.copy(0);
            x.deliver(0);
            Check.due("a HELLO", x.transcript(1), 0);
            x.deliver(0);
            Check.due("two HELLOs", x.transcript(1), 0);
            x.deliver(0);
            Check.due("a RETRY taken", x.transcript(1), 0);
            x.deliver(1);
            Check.due("HELLO AGAIN", x.transcript(1), Contents.transcript(c.hello, c.retry, c.helloAgain, c.answer,
                    c.terms, c.proof, c.serverDone));
        }
    }
}
