import java.io.ByteArrayOutputStream;
import java.io.IOException;
import java.io.PrintStream;
import java.lang.reflect.Method;
import java.lang.reflect.Modifier;
import java.net.URL;
import java.net.URLClassLoader;
import java.nio.file.Files;
import java.nio.file.Path;
import java.util.ArrayList;
import java.util.List;
import java.util.Set;
import java.util.TreeSet;
import java.util.stream.Stream;
import javax.tools.ToolProvider;

/** What README.md says is so: its example prints what stands there, and its tables name what there is. */
public final class ReadmeTest {
    private static final Check CHECK = new Check();
    private static final String PRINTS = "System.out.println(";

    public static void main(String[] args) throws Exception {
        List<String> lines = Files.readAllLines(Path.of("README.md"));
        example(blockOf(lines, "```java"));
        calls(lines);
        fields(lines);
        tests(lines);
        CHECK.end();
    }

    private static List<String> blockOf(List<String> lines, String opening) {
        int from = lines.indexOf(opening) + 1;
        int to = from + lines.subList(from, lines.size()).indexOf("```");
        return lines.subList(from, to);
    }

    private static void example(List<String> block) throws Exception {
        List<String> want = new ArrayList<>();
        for (String line : block) {
            if (line.contains(PRINTS)) {
                want.add(line.substring(line.indexOf("//") + 2).trim());
            }
        }
        List<String> got = printedBy(block);
        CHECK.due("lines that the example prints", got.size(), want.size());
        for (int i = 0; i < Math.min(got.size(), want.size()); i++) {
            CHECK.due("line " + i + " is " + got.get(i) + ", README.md says " + want.get(i),
                    got.get(i).equals(want.get(i)), true);
        }
    }

    private static List<String> printedBy(List<String> block) throws Exception {
        Path directory = Files.createTempDirectory("readme");
        Path source = Files.write(directory.resolve("Example.java"), block);
        int refused = ToolProvider.getSystemJavaCompiler().run(null, null, null, "-d", directory.toString(),
                "-cp", System.getProperty("java.class.path"), source.toString());
        CHECK.due("javac of the example", refused, 0);
        PrintStream before = System.out;
        ByteArrayOutputStream printed = new ByteArrayOutputStream();
        try (URLClassLoader loader = new URLClassLoader(new URL[] {directory.toUri().toURL()})) {
            Method main = loader.loadClass("Example").getMethod("main", String[].class);
            System.setOut(new PrintStream(printed, true));
            main.invoke(null, (Object) new String[0]);
        } finally {
            System.setOut(before);
            remove(directory);
        }
        return printed.toString().lines().toList();
    }

    private static void remove(Path directory) throws IOException {
        try (Stream<Path> files = Files.list(directory)) {
            for (Path file : files.toList()) {
                Files.delete(file);
            }
        }
        Files.delete(directory);
    }

    /** Each call of the face stands in the table, with as many arguments as it has. */
    private static void calls(List<String> lines) {
        Set<String> told = new TreeSet<>();
        for (String[] row : rowsBelow(lines, "| to | call |")) {
            for (String word : row[2].split("`")) {
                if (word.matches("\\w+\\(.*\\)")) {
                    int arguments = word.endsWith("()") ? 0 : word.split(",").length;
                    told.add(word.substring(0, word.indexOf('(')) + " " + arguments);
                }
            }
        }
        Set<String> face = new TreeSet<>();
        for (Method method : SampleAnalyser.class.getDeclaredMethods()) {
            if (Modifier.isPublic(method.getModifiers())) {
                face.add(method.getName() + " " + method.getParameterCount());
            }
        }
        CHECK.due("the calls " + told, told.equals(face), true);
    }

    /** The ends of what each field takes are as the table has them. */
    private static void fields(List<String> lines) {
        int told = 0;
        for (String[] row : rowsBelow(lines, "| field | of a protocol | from .. to | at first |")) {
            String[] numbers = row[1].split(", ");
            String[] ranges = row[3].split(", ");
            for (int i = 0; i < numbers.length; i++) {
                CHECK.due("the field in the table", Integer.parseInt(numbers[i]), told);
                ends(told, ranges[Math.min(i, ranges.length - 1)]);
                told++;
            }
        }
        CHECK.due("fields in the table", told, 16);
    }

    private static void ends(int field, String range) {
        boolean any = range.equals("any");
        String[] ends = range.split(" \\.\\. ");
        int least = any ? Check.MIN : Integer.parseInt(ends[0]);
        int most = any ? Check.MAX : Integer.parseInt(ends[1]);
        SampleAnalyser x = new SampleAnalyser();
        CHECK.takes("define(0, " + field + ", " + least + ")", () -> x.define(0, field, least));
        CHECK.takes("define(0, " + field + ", " + most + ")", () -> x.define(0, field, most));
        if (!any) {
            CHECK.refusesArgument("define below " + range, () -> x.define(0, field, least - 1));
            CHECK.refusesArgument("define above " + range, () -> x.define(0, field, most + 1));
        }
    }

    /** The tables name each test that there is, and none besides. */
    private static void tests(List<String> lines) throws IOException {
        Set<String> told = new TreeSet<>();
        List<String[]> rows = rowsBelow(lines, "| test | what it holds the program to |");
        rows.addAll(rowsBelow(lines, "| test | whose edges |"));
        for (String[] row : rows) {
            CHECK.due(row[1] + " stands there once", told.add(row[1] + ".java"), true);
        }
        Set<String> there = new TreeSet<>();
        try (Stream<Path> files = Files.list(Path.of("src/test/java"))) {
            files.map(file -> file.getFileName().toString()).filter(name -> name.endsWith("Test.java"))
                    .forEach(there::add);
        }
        CHECK.due("the tests in README.md " + told + " are those that there are " + there, told.equals(there), true);
    }

    /** The rows of a table, cut at their bars and without blanks; its cells are 1, 2 and so on. */
    private static List<String[]> rowsBelow(List<String> lines, String head) {
        List<String[]> rows = new ArrayList<>();
        int at = lines.indexOf(head);
        CHECK.due("the table " + head, at >= 0, true);
        for (int i = at + 2; at >= 0 && i < lines.size() && lines.get(i).startsWith("|"); i++) {
            String[] row = lines.get(i).split("\\|");
            for (int cell = 0; cell < row.length; cell++) {
                row[cell] = row[cell].trim();
            }
            rows.add(row);
        }
        return rows;
    }
}
