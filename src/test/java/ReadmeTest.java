import java.lang.reflect.Method;
import java.net.URL;
import java.net.URLClassLoader;
import java.nio.file.Files;
import java.nio.file.Path;
import java.util.ArrayList;
import java.util.Arrays;
import java.util.List;
import java.util.Map;
import java.util.Random;
import java.util.TreeMap;
import java.util.TreeSet;
import java.util.function.IntBinaryOperator;
import java.util.regex.Matcher;
import java.util.regex.Pattern;
import javax.tools.ToolProvider;

/** What README.md says of calls and answers is so: its examples are run, its tables held against the class. */
public final class ReadmeTest {
    private static final String[] FINDINGS = {"BEYOND", "FULL", "KIND", "NONE", "STATE", "MISSING", "SIZE"};
    private static final Pattern TOLD = Pattern.compile("(.*?)(town\\.\\w+\\(.*\\));\\s*// (-?\\d+)\\b.*");
    private static final Pattern BURNS =
        Pattern.compile("(?:(\\d+) \\* )?FIRE(?: \\+ (\\d+))?(?:, from clock (\\d+) on 0)?");

    /** Towns in which, taken together, each call can answer each of its findings. */
    private static final List<Towns.Maker> TOWNS = List.of(Towns::empty, Towns::full, Towns::dirty, Towns::allRoofed,
        Towns::upAndDown, () -> Towns.with(1), () -> Towns.late(Towns.LAST_HOUR));
    /** Few enough that no object gets more than its 512 calls, the making and status() included. */
    private static final int DRAWN_CALLS = 60;
    private static final int ROUNDS = 4;

    private final List<String> lines;

    private ReadmeTest(List<String> lines) {
        this.lines = lines;
    }

    public static void main(String[] args) throws Exception {
        ReadmeTest readme = new ReadmeTest(Files.readAllLines(Path.of("README.md")));
        readme.examples();
        readme.kinds();
        readme.findings();
        List<Row> rows = readme.calls();
        face(rows, Files.readString(Path.of("../shared/DOC.md")));
        for (Row row : rows) {
            row.bounds();
            row.drawnFindings();
        }
        readme.testsNamed();
        Check.end();
    }

    // ---- the examples

    private void examples() throws Exception {
        StringBuilder code = new StringBuilder("public final class Examples {\n");
        int examples = 0;
        for (int i = 0; i < lines.size(); i++) {
            if (lines.get(i).equals("```java")) {
                examples++;
                code.append("public static void e").append(examples)
                    .append("(java.util.function.IntBinaryOperator due) {\n");
                for (i++; !lines.get(i).equals("```"); i++) {
                    code.append(asked(i)).append('\n');
                }
                code.append("}\n");
            }
        }
        Check.due("README: examples", examples, 3);
        Class<?> made = compiled(code.append("}\n").toString());
        for (int e = 1; e <= examples; e++) {
            made.getMethod("e" + e, IntBinaryOperator.class).invoke(null, (IntBinaryOperator) this::told);
        }
    }

    /** A line with an answer becomes one that hands its answer over. */
    private String asked(int i) {
        Matcher m = TOLD.matcher(lines.get(i));
        boolean isTold = m.matches();
        Check.due("README: an answer is told in '" + lines.get(i) + "'", isTold ? 1 : 0,
            lines.get(i).contains("//") ? 1 : 0);
        return isTold ? m.group(1) + "due.applyAsInt(" + i + ", " + m.group(2) + ");" : lines.get(i);
    }

    private int told(int i, int got) {
        Matcher m = TOLD.matcher(lines.get(i));
        if (m.matches()) {
            Check.due("README: '" + lines.get(i).trim() + "'", got, Integer.parseInt(m.group(3)));
        }
        return got;
    }

    private static Class<?> compiled(String code) throws Exception {
        Path folder = Files.createTempDirectory("readme");
        Path file = folder.resolve("Examples.java");
        Files.writeString(file, code);
        int exit = ToolProvider.getSystemJavaCompiler().run(null, null, null, "-cp",
            System.getProperty("java.class.path"), "-d", folder.toString(), file.toString());
        Check.due("README: its examples compile", exit, 0);
        try (URLClassLoader loader = new URLClassLoader(new URL[] {folder.toUri().toURL()})) {
            return loader.loadClass("Examples");
        } finally {
            Files.deleteIfExists(file);
            Files.deleteIfExists(folder.resolve("Examples.class"));
            Files.deleteIfExists(folder);
        }
    }

    // ---- the tables

    private List<String[]> table(String head) {
        List<String[]> rows = new ArrayList<>();
        int at = 0;
        while (at < lines.size() && !lines.get(at).startsWith(head)) {
            at++;
        }
        for (at += 2; at < lines.size() && lines.get(at).startsWith("|"); at++) {
            String[] cells = lines.get(at).substring(1).split("\\|", -1);
            for (int i = 0; i < cells.length; i++) {
                cells[i] = cells[i].trim();
            }
            rows.add(cells);
        }
        return rows;
    }

    private void kinds() {
        List<String[]> rows = table("| kind |");
        Check.due("README: kinds", rows.size(), 7);
        for (int kind = 0; kind < rows.size(); kind++) {
            String[] row = rows.get(kind);
            SmokeRoofs x = new SmokeRoofs();
            Check.due("README: kind " + kind, Integer.parseInt(row[0]), kind);
            Check.due("README: its word", Check.read(x, row[1] + " of 0 at 0"), 1);
            Check.due("README: its name", x.of(0, 0), kind);
            under(x, rows, kind);
            Check.due("README: its worth", x.of(0, 7), Integer.parseInt(row[4]));
            x.change(0, 3, 0);
            Check.due("README: its soot", x.of(0, 8), Integer.parseInt(row[5]));
            burns(x, row[3]);
        }
    }

    /** It is of its own kind and of those above it, and of no other. */
    private static void under(SmokeRoofs x, List<String[]> rows, int kind) {
        TreeSet<Integer> above = new TreeSet<>(List.of(kind));
        String next = rows.get(kind)[2];
        while (!next.isEmpty() && above.add(Integer.parseInt(next))) {
            next = rows.get(Integer.parseInt(next))[2];
        }
        Check.holds("README: what " + kind + " is under", next.isEmpty());
        x.hold(0, 0);
        for (int other = 0; other < rows.size(); other++) {
            Check.due("README: kind " + kind + " as " + other, x.as(0, other), above.contains(other) ? 0 : Check.KIND);
        }
    }

    private static void burns(SmokeRoofs x, String told) {
        Matcher m = BURNS.matcher(told);
        Check.holds("README: '" + told + "' can be read", m.matches());
        int times = m.group(1) == null ? 1 : Integer.parseInt(m.group(1));
        int more = m.group(2) == null ? 0 : Integer.parseInt(m.group(2));
        int ends = m.group(3) == null ? 24 : Integer.parseInt(m.group(3));
        for (int clock = 0; clock < 24; clock++) {
            for (int fire : new int[] {0, 20, 99}) {
                x.change(0, 4, fire);
                Check.due("README: it burns " + told + " at " + clock, x.of(0, 9),
                    clock < ends ? times * fire + more : 0);
            }
            x.hours(1);
        }
    }

    private void findings() {
        List<String[]> rows = table("| finding |");
        Check.due("README: findings", rows.size(), FINDINGS.length);
        for (int i = 0; i < rows.size(); i++) {
            Check.holds("README: " + FINDINGS[i], rows.get(i)[0].equals(FINDINGS[i]));
            Check.due("README: " + FINDINGS[i], Integer.parseInt(rows.get(i)[1]), Check.BEYOND - i);
        }
    }

    private List<Row> calls() {
        List<Row> rows = new ArrayList<>();
        for (String[] cells : table("| call |")) {
            rows.add(new Row(cells));
        }
        return rows;
    }

    /** The calls are those of the document's face, in its order and with its arguments. */
    private static void face(List<Row> rows, String document) {
        List<String> face = new ArrayList<>();
        Matcher m = Pattern.compile("public int (\\w+\\(.*\\));").matcher(document);
        while (m.find()) {
            face.add(m.group(1).replace("int ", ""));
        }
        Check.due("README: calls", rows.size(), face.size());
        for (int i = 0; i < rows.size() && i < face.size(); i++) {
            Check.holds("README: " + face.get(i), rows.get(i).call.equals(face.get(i)));
        }
    }

    /** Each test is named, and no other. */
    private void testsNamed() throws Exception {
        TreeSet<String> named = new TreeSet<>();
        for (String line : lines) {
            Matcher m = Pattern.compile("- `(\\w+Test)`.*").matcher(line);
            if (m.matches()) {
                named.add(m.group(1));
            }
        }
        TreeSet<String> there = new TreeSet<>();
        for (String file : Path.of("src/test/java").toFile().list()) {
            if (file.endsWith("Test.java")) {
                there.add(file.substring(0, file.length() - 5));
            }
        }
        Check.holds("README: names " + named + " of " + there, named.equals(there));
    }

    /** A row of the table of calls. */
    private static final class Row {
        final String call;
        final String findings;
        final String[] names;
        final Map<String, int[]> ranges = new TreeMap<>();
        final Method method;

        Row(String[] cells) {
            call = cells[0].replace("`", "");
            findings = cells[3];
            String inner = call.substring(call.indexOf('(') + 1, call.length() - 1);
            names = inner.isEmpty() ? new String[0] : inner.split(", ");
            method = methodOf(call.substring(0, call.indexOf('(')), names.length);
            if (Arrays.asList(names).contains("chimney")) {
                ranges.put("chimney", new int[] {cells[1].contains("chimney or -1") ? -1 : 0, 7});
            }
            Matcher m = Pattern.compile("(\\w+) (-?\\d+) to (-?\\d+)").matcher(cells[1]);
            while (m.find()) {
                ranges.put(m.group(1), new int[] {Integer.parseInt(m.group(2)), Integer.parseInt(m.group(3))});
            }
        }

        private static Method methodOf(String name, int parameters) {
            Class<?>[] types = new Class<?>[parameters];
            Arrays.fill(types, int.class);
            try {
                return SmokeRoofs.class.getMethod(name, types);
            } catch (NoSuchMethodException e) {
                throw new IllegalStateException("README: there is no " + name, e);
            }
        }

        private int ask(SmokeRoofs x, int[] arguments) throws Exception {
            Object[] boxed = new Object[arguments.length];
            for (int i = 0; i < boxed.length; i++) {
                boxed[i] = arguments[i];
            }
            return (Integer) method.invoke(x, boxed);
        }

        /** An argument at its bounds is good, and one past them is BEYOND, in a town of eight chimneys. */
        void bounds() throws Exception {
            for (int i = 0; i < names.length; i++) {
                int[] range = ranges.get(names[i]);
                if (range != null) {
                    beyond(i, range[0] - 1, 1);
                    beyond(i, range[0], 0);
                    beyond(i, range[1], 0);
                    beyond(i, range[1] + 1, 1);
                }
            }
        }

        private void beyond(int i, int v, int want) throws Exception {
            int[] arguments = new int[names.length];
            for (int k = 0; k < names.length; k++) {
                arguments[k] = ranges.containsKey(names[k]) ? ranges.get(names[k])[0] : 0;
            }
            arguments[i] = v;
            int got = ask(Towns.full(), arguments);
            Check.due("README: " + call + " with " + names[i] + " " + v + " is BEYOND", got == Check.BEYOND ? 1 : 0, want);
        }

        /** What findings there are: none is answered that isn't named, and each that is named can be. */
        void drawnFindings() throws Exception {
            Random random = new Random(7);
            TreeSet<String> seen = new TreeSet<>();
            for (int round = 0; round < ROUNDS; round++) {
                for (Towns.Maker maker : TOWNS) {
                    SmokeRoofs x = maker.make();
                    int told = x.status(-1);
                    for (int i = 0; i < DRAWN_CALLS; i++) {
                        int answer = ask(x, drawn(random));
                        int before = told;
                        told = x.status(-1);
                        if (told > before) {
                            seen.add(FINDINGS[Check.BEYOND - answer]);
                        }
                    }
                }
            }
            TreeSet<String> named = new TreeSet<>(Arrays.asList(findings.split(", ")));
            named.remove("");
            Check.holds("README: " + call + " answers " + seen + " of " + named, seen.equals(named));
        }

        private int[] drawn(Random random) {
            int[] arguments = new int[names.length];
            for (int i = 0; i < arguments.length; i++) {
                int[] range = ranges.getOrDefault(names[i], new int[] {0, 40});
                arguments[i] = range[0] - 1 + random.nextInt(range[1] - range[0] + 3);
                if (names[i].equals("bits")) {
                    arguments[i] = 8 * random.nextInt(5);
                }
            }
            return arguments;
        }
    }
}
