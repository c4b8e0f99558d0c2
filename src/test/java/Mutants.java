import java.io.IOException;
import java.nio.file.Files;
import java.nio.file.Path;
import java.util.ArrayList;
import java.util.Comparator;
import java.util.List;
import java.util.concurrent.ExecutorService;
import java.util.concurrent.Executors;
import java.util.concurrent.Future;
import java.util.concurrent.TimeUnit;
import java.util.regex.Matcher;
import java.util.regex.Pattern;
import java.util.stream.Stream;
import javax.tools.ToolProvider;

/**
 * Not a test but a look at the tests: HomesQueue with one small change at a time (a bound moved by one, a condition
 * turned round, a statement left out), and whether any of the tests named fails then. Prints the changes that none of
 * them notices; some of these change nothing that can be seen from outside.
 * Use: java -cp CLASSES Mutants CLASSES TEST..., with all tests compiled into CLASSES.
 */
public final class Mutants {
    private static final Path SOURCE = Path.of("src/main/java/HomesQueue.java");

    private record Mutant(int line, String was, String is, String source) { }

    public static void main(String[] args) throws Exception {
        List<Mutant> mutants = mutants(Files.readAllLines(SOURCE));
        ExecutorService workers = Executors.newFixedThreadPool(Runtime.getRuntime().availableProcessors());
        List<Future<String>> ends = new ArrayList<>();
        for (Mutant mutant : mutants) {
            ends.add(workers.submit(() -> endOf(mutant, args)));
        }
        int noticed = 0;
        int unmade = 0;
        for (int i = 0; i < mutants.size(); i++) {
            String end = ends.get(i).get();
            Mutant m = mutants.get(i);
            noticed += end.equals("noticed") ? 1 : 0;
            unmade += end.equals("unmade") ? 1 : 0;
            if (end.equals("lives")) {
                System.out.println(m.line + ": " + m.was.trim() + "\n    -> " + m.is.trim());
            }
        }
        workers.shutdown();
        System.out.println("Mutants: " + mutants.size() + ", not compiled " + unmade + ", noticed " + noticed);
    }

    // ---- changes

    private static List<Mutant> mutants(List<String> lines) {
        List<Mutant> all = new ArrayList<>();
        for (int i = 0; i < lines.size(); i++) {
            String line = lines.get(i);
            String text = line.trim();
            if (text.startsWith("/") || text.startsWith("*") || text.startsWith("import")) {
                continue;
            }
            swap(all, lines, i, " < ", " <= ");
            swap(all, lines, i, " <= ", " < ");
            swap(all, lines, i, " > ", " >= ");
            swap(all, lines, i, " >= ", " > ");
            swap(all, lines, i, " == ", " != ");
            swap(all, lines, i, " != ", " == ");
            swap(all, lines, i, " && ", " || ");
            swap(all, lines, i, " || ", " && ");
            swap(all, lines, i, " + ", " - ");
            swap(all, lines, i, " - ", " + ");
            swap(all, lines, i, "++;", "--;");
            swap(all, lines, i, "--;", "++;");
            swap(all, lines, i, "true", "false");
            swap(all, lines, i, "false", "true");
            swap(all, lines, i, "(!", "(");
            numbers(all, lines, i);
            boolean statement = text.endsWith(";") && !text.startsWith("return") && !text.startsWith("case")
                    && !text.startsWith("private") && !text.startsWith("final");
            if (statement && !text.matches("(int|long|boolean|String|Home|House|State)\\b.*")) {
                add(all, lines, i, line.replace(text, ";"));
            }
        }
        return all;
    }

    private static void swap(List<Mutant> all, List<String> lines, int i, String from, String to) {
        String line = lines.get(i);
        for (int at = line.indexOf(from); at >= 0; at = line.indexOf(from, at + 1)) {
            add(all, lines, i, line.substring(0, at) + to + line.substring(at + from.length()));
        }
    }

    private static void numbers(List<Mutant> all, List<String> lines, int i) {
        String line = lines.get(i);
        Matcher m = Pattern.compile("(?<![\\w\"'])\\d+(?![\\w\"'])").matcher(line);
        while (m.find()) {
            int n = Integer.parseInt(m.group());
            for (int to : new int[] {n + 1, n - 1}) {
                add(all, lines, i, line.substring(0, m.start()) + to + line.substring(m.end()));
            }
        }
    }

    private static void add(List<Mutant> all, List<String> lines, int i, String changed) {
        List<String> copy = new ArrayList<>(lines);
        copy.set(i, changed);
        all.add(new Mutant(i + 1, lines.get(i), changed, String.join("\n", copy)));
    }

    // ---- runs

    private static String endOf(Mutant mutant, String[] args) throws Exception {
        Path place = Files.createTempDirectory("mutant");
        try {
            Path source = place.resolve("HomesQueue.java");
            Files.writeString(source, mutant.source);
            int made = ToolProvider.getSystemJavaCompiler().run(null, OutputNone.OUT, OutputNone.OUT, "-nowarn", "-d",
                    place.toString(), source.toString());
            if (made != 0) {
                return "unmade";
            }
            for (int i = 1; i < args.length; i++) {
                if (fails(place + ":" + args[0], args[i])) {
                    return "noticed";
                }
            }
            return "lives";
        } finally {
            clear(place);
        }
    }

    private static boolean fails(String classes, String test) throws Exception {
        Process p = new ProcessBuilder("java", "-XX:TieredStopAtLevel=1", "-XX:+UseSerialGC", "-Xmx256m", "-cp", classes, test)
                .redirectErrorStream(true).redirectOutput(ProcessBuilder.Redirect.DISCARD).start();
        if (!p.waitFor(60, TimeUnit.SECONDS)) {
            p.destroyForcibly();
            return true;
        }
        return p.exitValue() != 0;
    }

    private static void clear(Path place) throws IOException {
        try (Stream<Path> files = Files.walk(place)) {
            for (Path file : files.sorted(Comparator.reverseOrder()).toList()) {
                Files.delete(file);
            }
        }
    }

    private static final class OutputNone extends java.io.OutputStream {
        static final OutputNone OUT = new OutputNone();

        @Override
        public void write(int b) {
        }
    }
}
