import java.io.ByteArrayOutputStream;

/** What the document says that the messages hold, worked out from the seed alone. */
final class Contents {
    final byte[] hello;
    final byte[] retry;
    final byte[] helloAgain;
    final byte[] answer;
    final byte[] terms;
    final byte[] proof;
    final byte[] serverDone;
    final byte[] clientDone;

    Contents(int seed) {
        int r = mix(seed, 1);
        int s = mix(seed, 2);
        hello = join(bytes(r), new byte[4]);
        retry = bytes(mix(s, r));
        helloAgain = join(bytes(r), retry);
        answer = bytes(mix(s + 1, r));
        terms = row(6, r);
        proof = row(12 + (seed & 31), s + 2);
        serverDone = bytes(mix(transcript(hello, retry, helloAgain, answer, terms, proof), 2));
        clientDone = bytes(mix(transcript(hello, retry, helloAgain, answer, terms, proof, serverDone), 1));
    }

    static int mix(int a, int b) {
        int x = (a * 31 + b) * 739982445;
        return x ^ x >>> 15;
    }

    static int transcript(byte[]... messages) {
        int t = 0;
        for (byte[] message : messages) {
            for (byte b : message) {
                t = t * 31 + (b & 255) + 1;
            }
        }
        return t;
    }

    private static byte[] bytes(int number) {
        return new byte[] {(byte) number, (byte) (number >> 8), (byte) (number >> 16), (byte) (number >> 24)};
    }

    private static byte[] row(int length, int key) {
        byte[] out = new byte[length];
        for (int i = 0; i < length; i++) {
            out[i] = (byte) mix(key, i);
        }
        return out;
    }

    private static byte[] join(byte[] a, byte[] b) {
        ByteArrayOutputStream out = new ByteArrayOutputStream();
        out.writeBytes(a);
        out.writeBytes(b);
        return out.toByteArray();
    }
}
