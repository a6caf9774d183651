import java.nio.charset.StandardCharsets;
import java.util.Arrays;

/** Texts as the numbers that feed takes. */
final class Tapes {
    private Tapes() {
    }

    interface Feeder {
        void feed(int a, int b, int c, int d, int e);
    }

    /** Feeds a text, filled up to whole twenties of bytes, which end(text.length()) takes off again. */
    static void feedAll(String text, Feeder feeder) {
        byte[] bytes = text.getBytes(StandardCharsets.ISO_8859_1);
        for (int at = 0; at < bytes.length; at += 20) {
            byte[] part = Arrays.copyOf(Arrays.copyOfRange(bytes, at, Math.min(at + 20, bytes.length)), 20);
            int[] n = new int[5];
            for (int i = 0; i < 20; i++) {
                n[i / 4] = n[i / 4] << 8 | part[i] & 255;
            }
            feeder.feed(n[0], n[1], n[2], n[3], n[4]);
        }
    }

    static void put(QuakeNet net, String text) {
        net.end(0);
        feedAll(text, net::feed);
        net.end(text.length());
    }
}
