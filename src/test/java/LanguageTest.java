import java.io.IOException;
import java.io.PrintWriter;
import java.io.StringWriter;
import java.net.URISyntaxException;
import java.nio.file.Files;
import java.nio.file.Path;
import java.util.ArrayList;
import java.util.List;
import java.util.Map;
import java.util.Set;
import java.util.TreeMap;
import java.util.TreeSet;
import java.util.regex.Matcher;
import java.util.regex.Pattern;
import java.util.spi.ToolProvider;

/** LANGUAGE.md as far as the source and what javac makes of it can tell. */
public final class LanguageTest {
    private static final Path SOURCE = Path.of("src/main/java/QuakeNet.java");
    private static final int MOST_CALLS_DEEP = 8;

    /** Rule 4, of which the file uses these alone. */
    private static final Set<String> LIBRARY = Set.of(
            "Integer.bitCount", "Math.abs", "Math.max", "Math.min", "System.arraycopy", "Arrays.fill",
            "String.charAt", "String.length", "Object.<init>");
    /** Rule 6. */
    private static final Set<String> EXCEPTIONS = Set.of("IllegalStateException", "IllegalArgumentException",
            "IndexOutOfBoundsException", "ArithmeticException", "UnsupportedOperationException",
            "NoSuchElementException", "RuntimeException");

    private final Checks checks = new Checks();
    private final String code = withoutComments(Files.readString(SOURCE));
    /** Which methods each method calls; recursion, which rule 8 lets be, is left to the guards on its depth. */
    private final Map<String, Set<String>> calls = new TreeMap<>();

    private LanguageTest() throws IOException {
    }

    public static void main(String[] args) throws Exception {
        LanguageTest test = new LanguageTest();
        test.libraryNames();
        test.words();
        test.texts();
        test.bytecode();
        test.depth();
        test.checks.finish("LanguageTest");
    }

    private static String withoutComments(String text) {
        return text.replaceAll("(?s)/\\*.*?\\*/", "").replaceAll("//.*", "");
    }

    private void libraryNames() {
        Matcher use = Pattern.compile("\\b(Integer|Long|Math|System|Arrays|String|Object)\\s*\\.\\s*(\\w+)").matcher(code);
        while (use.find()) {
            String name = use.group(1) + "." + use.group(2);
            checks.yes("rule 4: " + name, LIBRARY.contains(name));
        }
    }

    private void words() {
        for (String word : new String[] {"double", "float", "Object", "Integer\\s*>", "instanceof", "try", "catch", "finally",
            "native", "strictfp", "volatile", "transient", "synchronized", "assert", "var", "equals", "hashCode", "toString"}) {
            checks.no("not in this file: " + word, Pattern.compile("\\b" + word + "\\b").matcher(code).find());
        }
        checks.no("rule 1: a package line", code.startsWith("package"));
        checks.no("rule 10: texts joined by +", Pattern.compile("\"\\s*\\+|\\+\\s*\"").matcher(code).find());
    }

    private void texts() {
        Matcher text = Pattern.compile("\"([^\"\\\\]*)\"|'(.)'").matcher(code);
        while (text.find()) {
            checks.yes("rule 4: signs 1 to 127: " + text.group(), text.group().chars().allMatch(c -> c > 0 && c < 128));
        }
    }

    private void bytecode() throws IOException, URISyntaxException {
        String owner = "";
        String method = "";
        for (String line : disassembled().split("\n")) {
            Matcher begins = Pattern.compile("^(?:public |final |abstract )*class (\\S+) .*").matcher(line);
            Matcher declares = Pattern.compile("^  (?! ).*?([\\w.$]+)\\(.*\\).*;$").matcher(line);
            if (begins.matches()) {
                owner = begins.group(1);
            } else if (declares.matches()) {
                String name = declares.group(1);
                method = owner + "." + (name.equals(owner) ? "<init>" : name);
                calls.put(method, new TreeSet<>());
            } else {
                look(owner, method, line);
            }
        }
        long classes = calls.keySet().stream().map(m -> m.replaceAll("\\..*", "")).distinct().count();
        checks.yes("rule 11: " + classes + " classes", classes > 1 && classes <= 12);
    }

    private void look(String owner, String method, String line) {
        checks.no("rule 6: a catch in " + method, line.contains("Exception table:"));
        checks.no("rule 2: a lambda in " + method, line.contains("invokedynamic"));
        checks.no("rule 5: a static block in " + owner, line.contains("static {};"));
        checks.no("rule 6: a throw in " + method, line.contains("athrow") && method.endsWith("<init>"));
        checks.no("a cast of references in " + method, line.contains("checkcast"));
        if (line.matches(".*: (new|newarray|anewarray|multianewarray) .*")) {
            checks.yes("the room: " + method + " makes" + line, makesWithLeave(method, line));
        }
        Matcher call = Pattern.compile("// Method (?:([\\w/$]+)\\.)?\"?([\\w<>]+)\"?:").matcher(line);
        if (!call.find()) {
            return;
        }
        String to = call.group(1) == null ? owner : call.group(1).replaceAll(".*/", "");
        if (to.startsWith("QuakeNet")) {
            calls.get(method).add(to + "." + call.group(2));
        } else if (!EXCEPTIONS.contains(to)) {
            checks.yes("rule 4: " + to + "." + call.group(2), LIBRARY.contains(to + "." + call.group(2)));
        }
    }

    /** All rows are made with the object; what comes later is the first image and what is thrown. */
    private static boolean makesWithLeave(String method, String line) {
        String made = line.replaceAll(".*[ /]", "");
        return method.endsWith(".<init>") || EXCEPTIONS.contains(made)
                || method.equals("QuakeNet.image") && made.equals("QuakeNet$Town");
    }

    private static String disassembled() throws IOException, URISyntaxException {
        Path folder = Path.of(QuakeNet.class.getProtectionDomain().getCodeSource().getLocation().toURI());
        List<String> args = new ArrayList<>(List.of("-p", "-c"));
        try (var files = Files.list(folder)) {
            files.map(Path::toString).filter(f -> f.matches(".*QuakeNet(\\$\\w+)?\\.class")).sorted().forEach(args::add);
        }
        StringWriter text = new StringWriter();
        ToolProvider javap = ToolProvider.findFirst("javap").orElseThrow();
        javap.run(new PrintWriter(text), new PrintWriter(System.err), args.toArray(new String[0]));
        return text.toString();
    }

    private void depth() {
        checks.yes("rule 11: the calls were found", calls.getOrDefault("QuakeNet.far", Set.of()).contains("QuakeNet.spreadOn"));
        for (String method : calls.keySet()) {
            List<String> deepest = deepestFrom(method, List.of());
            checks.yes("rule 11: calls deeper than eight: " + deepest, deepest.size() <= MOST_CALLS_DEEP);
        }
    }

    /** The longest chain of calls in which no method comes twice. */
    private List<String> deepestFrom(String method, List<String> ahead) {
        List<String> chain = new ArrayList<>(ahead);
        chain.add(method);
        List<String> deepest = chain;
        for (String next : calls.getOrDefault(method, Set.of())) {
            if (!chain.contains(next)) {
                List<String> longer = deepestFrom(next, chain);
                deepest = longer.size() > deepest.size() ? longer : deepest;
            }
        }
        return deepest;
    }
}
