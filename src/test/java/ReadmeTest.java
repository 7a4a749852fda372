import java.lang.reflect.Method;
import java.net.URL;
import java.net.URLClassLoader;
import java.nio.file.Files;
import java.nio.file.Path;
import java.util.ArrayList;
import java.util.Arrays;
import java.util.List;
import java.util.Map;
import java.util.regex.Matcher;
import java.util.regex.Pattern;
import java.util.stream.Stream;
import javax.tools.ToolProvider;

/** README.md says what is so: its calls are the document's, they take what it says, its examples answer what it says. */
public final class ReadmeTest {
    private static final int BAD = WalnutHouses.BAD;
    private static final int LOWEST = Integer.MIN_VALUE, HIGHEST = Integer.MAX_VALUE;
    private static final Pattern EXAMPLE = Pattern.compile("(nut\\.\\w+\\(.*\\));\\s*// (-?\\d+): .*");
    /** What Rows.rich(6) has, by the call that keeps the first n of it. */
    private static final Map<String, Integer> THERE_IS = Map.of("end", 8, "clear", 6, "forget", 3);
    private static int rows = 0;
    private static int wrong = 0;

    /** One row of README.md: a call, what it takes, what it answers. */
    private record Row(String call, String takes, String answers) {
        String name() {
            return call.substring(call.indexOf(' ') + 1, call.indexOf('('));
        }

        String[] parameters() {
            String inside = call.substring(call.indexOf('(') + 1, call.indexOf(')')).replace("int ", "");
            return inside.isEmpty() ? new String[0] : inside.split(", ");
        }
    }

    private static void check(boolean is, String what) {
        rows++;
        if (!is) {
            wrong++;
            System.out.println("not so: " + what);
        }
    }

    public static void main(String[] args) throws Exception {
        Path here = Path.of(args.length > 0 ? args[0] : ".");
        List<String> page = Files.readAllLines(here.resolve("README.md"));
        String document = Files.readString(here.resolve("../shared/DOC.md"));
        List<Row> calls = callsOf(page);
        callsAreTheDocuments(calls, document);
        for (Row row : calls) {
            codesAreTheDocuments(row, document);
            callTakesWhatIsTold(row);
        }
        examplesAnswerWhatIsTold(page);
        testsAreNamed(here, page);
        System.out.println(rows + " rows of README.md, " + wrong + " not so");
        if (wrong != 0) {
            System.exit(1);
        }
    }

    private static List<Row> callsOf(List<String> page) {
        List<Row> calls = new ArrayList<>();
        for (String line : page) {
            if (line.matches("\\| `(int|long) \\w+\\(.*")) {
                String[] cells = line.split("\\|");
                calls.add(new Row(cells[1].trim().replace("`", ""), cells[2].trim(), cells[3].trim()));
            }
        }
        return calls;
    }

    private static void callsAreTheDocuments(List<Row> calls, String document) {
        List<String> due = new ArrayList<>();
        Matcher face = Pattern.compile("(?m)^    public ((?:int|long) \\w+\\(.*\\));$").matcher(document);
        while (face.find()) {
            due.add(face.group(1));
        }
        check(due.size() == 38, "the document has 38 calls: " + due.size());
        List<String> got = new ArrayList<>();
        for (Row row : calls) {
            got.add(row.call());
        }
        check(due.equals(got), "the calls in the document's order: " + got);
    }

    /** A row tells of FULL, STATE and NONE where the document's promise does. */
    private static void codesAreTheDocuments(Row row, String document) {
        Matcher promise = Pattern.compile("## Promise \\d+: " + row.name() + "\n\n(.*)").matcher(document);
        check(promise.find(), "the document promises " + row.name());
        for (String code : new String[] {"FULL", "STATE", "NONE"}) {
            boolean due = Pattern.compile("\\b" + code + "\\b").matcher(promise.group(1)).find();
            check(due == row.answers().contains("`" + code + "`"), row.call() + " tells of " + code);
        }
    }

    private static void callTakesWhatIsTold(Row row) throws Exception {
        String[] names = row.parameters();
        int[] low = new int[names.length];
        int[] high = new int[names.length];
        Matcher told = Pattern.compile("`(\\w+)` ([^`]*?)(?:, (?=`)|$)").matcher(row.takes());
        int count = 0;
        while (told.find() && count < names.length) {
            check(told.group(1).equals(names[count]), row.call() + " takes " + names[count]);
            readBounds(row, told.group(2), count, low, high);
            count++;
        }
        check(count == names.length && row.takes().chars().filter(c -> c == '`').count() == 2L * count, row.call() + " takes " + row.takes());
        for (int at = 0; at < names.length; at++) {
            for (int v : new int[] {low[at], high[at]}) {
                check(answer(row, low, at, v) != BAD, row.call() + " takes " + v + " as " + names[at]);
            }
            for (int v : new int[] {LOWEST, low[at] - 1}) {
                boolean size = row.name().equals("sheet") && names[at].equals("n");
                check(low[at] == LOWEST || answer(row, low, at, v) == (size ? -14 : BAD), row.call() + " refuses " + v + " as " + names[at]);
            }
            for (int v : new int[] {high[at] + 1, HIGHEST}) {
                check(high[at] == HIGHEST || answer(row, low, at, v) == BAD, row.call() + " refuses " + v + " as " + names[at]);
            }
        }
    }

    private static void readBounds(Row row, String words, int at, int[] low, int[] high) {
        Matcher numbers = Pattern.compile("(\\d+) to (\\d+)").matcher(words);
        if (words.equals("any")) {
            low[at] = LOWEST;
            high[at] = HIGHEST;
        } else if (words.equals("a member")) {
            high[at] = 5;
        } else if (words.equals("0 to what there is")) {
            high[at] = THERE_IS.getOrDefault(row.name(), -1);
        } else if (words.equals("40 at most")) {
            high[at] = 40;
        } else if (words.equals("by what: 0 to 3, 1, 20, 20")) {
            high[at] = 3;
            altersWhatIsTold(row);
        } else {
            check(numbers.matches(), row.call() + " takes " + words);
            low[at] = Integer.parseInt(numbers.group(1));
            high[at] = Integer.parseInt(numbers.group(2));
        }
    }

    private static void altersWhatIsTold(Row row) {
        int[] most = {3, 1, 20, 20};
        for (int what = 0; what < most.length; what++) {
            check(Rows.rich(6).alter(0, what, most[what]) != BAD, row.call() + " takes " + most[what] + " for " + what);
            check(Rows.rich(6).alter(0, what, most[what] + 1) == BAD, row.call() + " refuses " + (most[what] + 1) + " for " + what);
        }
    }

    /** One parameter is v, the others are the least they can be. */
    private static long answer(Row row, int[] least, int at, int v) throws Exception {
        Class<?>[] types = new Class<?>[least.length];
        Object[] values = new Object[least.length];
        Arrays.fill(types, int.class);
        for (int p = 0; p < least.length; p++) {
            values[p] = p == at ? v : least[p];
        }
        Method call = WalnutHouses.class.getMethod(row.name(), types);
        return ((Number) call.invoke(Rows.rich(6), values)).longValue();
    }

    /** The examples are compiled and run as they stand, each answer that is told being compared. */
    private static void examplesAnswerWhatIsTold(List<String> page) throws Exception {
        StringBuilder code = new StringBuilder("public class Example {\n    public static void run(java.util.List<String> got) {\n");
        List<String> due = new ArrayList<>();
        boolean inside = false;
        for (String line : page) {
            if (line.startsWith("```")) {
                inside = line.equals("```java");
            } else if (inside) {
                Matcher example = EXAMPLE.matcher(line);
                if (example.matches()) {
                    due.add(example.group(1) + " " + example.group(2));
                    code.append("got.add(\"" + example.group(1) + " \" + " + example.group(1) + ");\n");
                } else {
                    check(!line.matches("nut.*"), "an example with its answer: " + line);
                    code.append(line).append('\n');
                }
            }
        }
        check(due.size() > 20, "examples: " + due.size());
        List<String> got = new ArrayList<>();
        run(code.append("    }\n}\n").toString(), got);
        for (int n = 0; n < due.size(); n++) {
            check(n < got.size() && due.get(n).equals(got.get(n)), due.get(n) + ", but " + (n < got.size() ? got.get(n) : "nothing"));
        }
    }

    private static void run(String code, List<String> got) throws Exception {
        Path folder = Files.createTempDirectory("readme");
        Path file = Files.writeString(folder.resolve("Example.java"), code);
        String path = System.getProperty("java.class.path");
        int compiled = ToolProvider.getSystemJavaCompiler().run(null, null, null, "-cp", path, "-d", folder.toString(), file.toString());
        check(compiled == 0, "the examples compile");
        if (compiled == 0) {
            try (URLClassLoader loader = new URLClassLoader(new URL[] {folder.toUri().toURL()}, ReadmeTest.class.getClassLoader())) {
                loader.loadClass("Example").getMethod("run", List.class).invoke(null, got);
            }
        }
        for (String name : new String[] {"Example.class", "Example.java"}) {
            Files.deleteIfExists(folder.resolve(name));
        }
        Files.delete(folder);
    }

    private static void testsAreNamed(Path here, List<String> page) throws Exception {
        List<String> named = new ArrayList<>();
        for (String line : page) {
            Matcher row = Pattern.compile("\\| `(src/test/java/\\w+\\.java)` \\|.*").matcher(line);
            if (row.matches()) {
                named.add(row.group(1));
            }
        }
        List<String> due = new ArrayList<>();
        try (Stream<Path> files = Files.list(here.resolve("src/test/java"))) {
            files.forEach(file -> due.add("src/test/java/" + file.getFileName()));
        }
        named.sort(null);
        due.sort(null);
        check(named.equals(due), "the tests are " + due + ", named are " + named);
    }
}
