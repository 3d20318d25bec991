import java.io.IOException;
import java.lang.reflect.InvocationTargetException;
import java.lang.reflect.Method;
import java.lang.reflect.Modifier;
import java.nio.file.Files;
import java.nio.file.Path;
import java.util.ArrayList;
import java.util.HashMap;
import java.util.HashSet;
import java.util.List;
import java.util.Map;
import java.util.NoSuchElementException;
import java.util.Set;
import java.util.TreeSet;
import java.util.function.Supplier;
import java.util.regex.Matcher;
import java.util.regex.Pattern;

/** What README.md shows is so: its programs print what it says, and its tables tell what the calls answer. */
public final class ReadmeTest {
    private static final Pattern BLOCK = Pattern.compile("(?ms)^```(\\w+)\\n(.*?)^```$");
    private static final Pattern CLASS = Pattern.compile("public class (\\w+) ");
    private static final Pattern CALL = Pattern.compile("`(\\w+)\\((.*)\\)`");
    private static final int[] NUMBERS = {-1, 0, 1, 2, 3, 4, 5, 6, 7, 8, 9, 11, 12, 13, 35, 36, 37, 200, 201, 65536, 65537};
    private static final List<Supplier<ClosePacking>> SCENES = List.of(Edge::none, Edge::fewest, Edge::most,
            () -> Edge.stacks("ud", "uuu", "uuuuuuuuuuuu"));
    /** A call that answers without a trouble of its own leaves the trouble that it finds. */
    private static final int TROUBLE_FOUND = 6;

    /** A row of the tables of calls. */
    private record Row(String name, int arguments, String refused, Set<Integer> troubles) {
    }

    public static void main(String[] args) throws Exception {
        String text = Files.readString(Path.of("README.md"));
        programs(text);
        faults(text);
        Map<String, Row> rows = rows(text);
        for (Method m : ClosePacking.class.getDeclaredMethods()) {
            if (Modifier.isPublic(m.getModifiers())) {
                told(m, rows.remove(m.getName()));
            }
        }
        Check.due("calls told that there aren't", rows.size(), 0);
        wordsOf(text);
        Check.end();
    }

    // ---- the programs

    private static void programs(String text) throws Exception {
        Path folder = Files.createTempDirectory("readme");
        try {
            runAll(text, folder);
            commands(text, folder);
        } finally {
            try (var files = Files.walk(folder)) {
                files.sorted(java.util.Comparator.reverseOrder()).forEach(file -> file.toFile().delete());
            }
        }
    }

    private static void runAll(String text, Path folder) throws Exception {
        Files.copy(Path.of("src/main/java/ClosePacking.java"), folder.resolve("ClosePacking.java"));
        List<String> compile = new ArrayList<>(List.of("javac", "ClosePacking.java"));
        List<String> names = new ArrayList<>();
        List<String> due = new ArrayList<>();
        for (Matcher m = BLOCK.matcher(text); m.find();) {
            if (m.group(1).equals("text")) {
                due.add(m.group(2));
                continue;
            }
            Matcher name = CLASS.matcher(m.group(2));
            Check.due("a block of java is a program", m.group(1).equals("java") && name.find(), true);
            names.add(name.group(1));
            compile.add(name.group(1) + ".java");
            Files.writeString(folder.resolve(name.group(1) + ".java"), m.group(2));
        }
        Check.due("programs shown", names.size() >= 4, true);
        Check.due("programs of which it is told what they print", due.size(), names.size());
        Check.same("javac of what README.md shows", output(folder, compile), "");
        for (int i = 0; i < Math.min(names.size(), due.size()); i++) {
            Check.same("java " + names.get(i), output(folder, List.of("java", names.get(i))), due.get(i));
        }
    }

    /** How one test alone is run: the commands that stand by themselves in lines, from this folder. */
    private static void commands(String text, Path folder) throws Exception {
        int commands = 0;
        for (String line : BLOCK.matcher(text).replaceAll("").split("\n")) {
            if (line.startsWith("    java")) {
                String command = line.trim().replace("/tmp/out", folder.resolve("out").toString());
                String output = output(Path.of(".").toAbsolutePath(), List.of(command.split(" ")));
                Check.due(line.trim() + " tells of wrong answers: " + output,
                        line.contains("javac") ? output.isEmpty() : output.endsWith(" 0 not as due\n"), true);
                commands++;
            }
        }
        Check.due("commands shown", commands, 2);
    }

    private static String output(Path folder, List<String> command) throws IOException, InterruptedException {
        Process process = new ProcessBuilder(command).directory(folder.toFile()).redirectErrorStream(true).start();
        String output = new String(process.getInputStream().readAllBytes()).replace("\r\n", "\n");
        Check.due(command.get(0) + " ends with", process.waitFor(), 0);
        return output;
    }

    // ---- the tables

    private static List<String[]> cells(String text, int columns) {
        List<String[]> result = new ArrayList<>();
        for (String line : text.split("\n")) {
            if (line.startsWith("| ")) {
                String[] cells = line.substring(1, line.length() - 1).split("\\|", -1);
                for (int i = 0; i < cells.length; i++) {
                    cells[i] = cells[i].trim();
                }
                if (cells.length == columns) {
                    result.add(cells);
                }
            }
        }
        return result;
    }

    private static void faults(String text) {
        Set<Integer> shown = new HashSet<>();
        for (String[] cells : cells(text, 5)) {
            if (cells[0].matches("[0-9]")) {
                String lab = cells[3].substring(1, cells[3].length() - 1);
                ClosePacking x = Edge.most();
                x.lab(0);
                Check.due(x, "lab: " + lab, Check.tell(x, lab), -1, 4);
                Check.due("fault() of " + lab, x.fault(), Integer.parseInt(cells[0]));
                Check.due("where() of " + lab, x.where(), Integer.parseInt(cells[4]));
                shown.add(x.fault());
            }
        }
        Check.due("faults shown", shown.size(), 7);
    }

    private static Map<String, Row> rows(String text) {
        Map<String, Row> rows = new HashMap<>();
        for (String[] cells : cells(text, 4)) {
            Matcher call = CALL.matcher(cells[0]);
            if (call.matches()) {
                Set<Integer> troubles = new TreeSet<>();
                for (Matcher number = Pattern.compile("(?:^|, )([1-6])\\b").matcher(cells[3]); number.find();) {
                    troubles.add(Integer.valueOf(number.group(1)));
                }
                int arguments = call.group(2).isEmpty() ? 0 : call.group(2).split(",").length;
                Check.due("an answer is told of " + cells[0], cells[1].length() > 0, true);
                Row former = rows.put(call.group(1), new Row(call.group(1), arguments, cells[2], troubles));
                Check.due(call.group(1) + " is told once", former == null, true);
            }
        }
        return rows;
    }

    /** By all numbers, on objects of all sorts: just the troubles told are met, and with them just the answer told. */
    private static void told(Method m, Row row) throws Exception {
        Check.due(m.getName() + " is told", row != null && row.arguments == m.getParameterCount(), true);
        if (row == null) {
            return;
        }
        Set<Integer> met = new TreeSet<>();
        for (Supplier<ClosePacking> scene : SCENES) {
            for (Object[] arguments : argumentsOf(m.getParameterTypes())) {
                ClosePacking x = scene.get();
                String what = m.getName() + List.of(arguments);
                String answer = refused(m, x, arguments, row.troubles.isEmpty());
                if (row.troubles.isEmpty()) {
                    Check.due("trouble() behind " + what, x.trouble(), m.getName().equals("lab") ? 0 : TROUBLE_FOUND);
                } else if (x.trouble() != 0) {
                    met.add(x.trouble());
                    Check.same(what, answer, row.refused);
                } else {
                    Check.due(what + " isn't refused, and doesn't answer so", answer.equals(row.refused), false);
                }
            }
        }
        Check.same("troubles of " + m.getName(), met.toString(), row.troubles.toString());
    }

    private static String refused(Method m, ClosePacking x, Object[] arguments, boolean afterTrouble) throws Exception {
        while (afterTrouble && x.trouble() != TROUBLE_FOUND) {
            x.undo();
        }
        try {
            return String.valueOf(m.invoke(x, arguments));
        } catch (InvocationTargetException e) {
            Check.due(m.getName() + " throws " + e.getCause(),
                    m.getName().equals("led") && e.getCause() instanceof NoSuchElementException, true);
            return "thrown";
        }
    }

    private static List<Object[]> argumentsOf(Class<?>[] types) {
        List<Object[]> all = new ArrayList<>(List.of(new Object[][] {{}}));
        for (int i = 0; i < types.length && types.length < 5; i++) {
            List<Object[]> longer = new ArrayList<>();
            for (Object[] arguments : all) {
                if (types[i] == boolean.class) {
                    longer.add(with(arguments, false));
                    longer.add(with(arguments, true));
                } else {
                    for (int number : NUMBERS) {
                        longer.add(with(arguments, number));
                    }
                }
            }
            all = longer;
        }
        return types.length < 5 ? all : List.of(new Object[][] {{0, 0, 0, 0, 0}, {-1, 1, -1, 1, -1}});
    }

    private static Object[] with(Object[] arguments, Object one) {
        Object[] result = java.util.Arrays.copyOf(arguments, arguments.length + 1);
        result[arguments.length] = one;
        return result;
    }

    /** The tests are named where it is told how they are run. */
    private static void wordsOf(String text) throws IOException {
        Check.due("how the tests are run", text.contains(".ci/run"), true);
        try (var files = Files.list(Path.of("src/test/java"))) {
            for (Path file : (Iterable<Path>) files::iterator) {
                String name = file.getFileName().toString().replace(".java", "");
                Check.due(name + " is told", text.contains("`" + name + "`"), true);
            }
        }
    }
}
