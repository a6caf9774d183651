import java.io.IOException;
import java.nio.file.Files;
import java.nio.file.Path;

/** README.md shows the code between the marks of this file, word by word; what it says of the answers holds. */
public final class ReadmeTest {
    private ReadmeTest() {
    }

    public static void main(String[] args) throws IOException {
        Checks checks = new Checks();
        String readme = folded(Files.readString(Path.of("README.md")));
        String[] parts = Files.readString(Path.of("src/test/java/ReadmeTest.java")).split("// --- (shown|so far).*\n");
        for (int i = 1; i < parts.length; i += 2) {
            checks.yes("README.md shows part " + i, readme.contains(folded(parts[i])));
        }
        checks.same("parts that are shown", parts.length / 2, 3);
        words(checks);
        rules(checks);
        checks.finish("ReadmeTest");
    }

    /** The answers that are told behind the calls are no part of the code. */
    private static String folded(String text) {
        return text.replaceAll("//.*", "").replaceAll("\\s+", " ");
    }

    private static void words(Checks checks) {
        // --- shown
        QuakeNet net = new QuakeNet();
        int tent = net.phone(0, 100, 3, 0);
        int other = net.phone(5, 100, 3, 2);
        net.move(0, other, 2, 0);
        int word = net.say(other, 1, 50, 3, 10, 0, 7);
        net.ticks(2);
        // --- so far
        checks.same("the TENT", tent, 0);
        checks.same("had", net.had(word), 2);
        checks.same("way", net.way(word, 0), 1);
        checks.same("copy", net.copy(tent, word, 0), 9);
        checks.same("could", net.could(3, 2, 2), 61412);
    }

    private static void rules(Checks checks) {
        QuakeNet net = new QuakeNet();
        // --- shown
        text(net, "first 5 if seen or need; pass if hops < 4 and not order; cost 2");
        int lines = net.rules();
        // --- so far
        checks.same("lines", lines, 3);
        checks.same("no fault", net.fault(), QuakeNet.NONE);
        text(net, "first 5 if sean");
        checks.throwsOf("a wrong text", IllegalArgumentException.class, net::rules);
        checks.same("its first wrong byte", net.fault(), 11);
        checks.same("the RULES stay", net.count(3), 3);
    }

    // --- shown
    static void text(QuakeNet net, String text) {
        net.end(0);
        for (int at = 0; at < text.length(); at += 20) {
            int[] n = new int[5];
            for (int i = 0; i < 20; i++) {
                n[i / 4] = n[i / 4] << 8 | (at + i < text.length() ? text.charAt(at + i) : 0);
            }
            net.feed(n[0], n[1], n[2], n[3], n[4]);
        }
        net.end(text.length());
    }
    // --- so far
}
