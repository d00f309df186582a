import java.io.IOException;
import java.lang.reflect.Method;
import java.lang.reflect.Modifier;
import java.nio.charset.StandardCharsets;
import java.nio.file.Files;
import java.nio.file.Path;
import java.util.ArrayList;
import java.util.Collections;
import java.util.List;
import java.util.stream.Stream;

/**
 * Does what README.md tells its reader to do, in a copy of the project, and looks whether it comes out as
 * README.md says. Run from the project's root.
 */
public final class ReadmeTest {
    private static final String PRINT = "System.out.println(";
    private static final String PRINTED = "// ";

    private static int wrong = 0;

    private static void check(String what, boolean holds) {
        if (!holds) {
            wrong++;
            System.out.println(what);
        }
    }

    /** The fenced blocks of the given language, in their order. */
    private static List<String> blocks(String readme, String language) {
        List<String> found = new ArrayList<>();
        StringBuilder block = null;
        for (String row : readme.split("\n")) {
            if (block == null) {
                block = row.equals("```" + language) ? new StringBuilder() : null;
            } else if (row.equals("```")) {
                found.add(block.toString());
                block = null;
            } else {
                block.append(row).append('\n');
            }
        }
        return found;
    }

    /** What the rows of the example that print say behind them. */
    private static List<String> promised(String example) {
        List<String> rows = new ArrayList<>();
        for (String row : example.split("\n")) {
            int comment = row.lastIndexOf(PRINTED);
            if (row.contains(PRINT)) {
                check("it is not said what this prints: " + row, comment >= 0);
                rows.add(comment < 0 ? "" : row.substring(comment + PRINTED.length()));
            }
        }
        return rows;
    }

    private static List<Path> below(Path place) throws IOException {
        List<Path> paths = new ArrayList<>();
        try (Stream<Path> walk = Files.walk(place)) {
            walk.forEach(paths::add);
        }
        return paths;
    }

    private static Path projectWith(String example) throws IOException {
        Path copy = Files.createTempDirectory("readme");
        for (Path path : below(Path.of("src"))) {
            Path there = copy.resolve(path.toString());
            if (Files.isDirectory(path)) {
                Files.createDirectories(there);
            } else {
                Files.copy(path, there);
            }
        }
        Files.writeString(copy.resolve("Example.java"), example);
        return copy;
    }

    private static void delete(Path place) throws IOException {
        List<Path> paths = below(place);
        Collections.reverse(paths);
        for (Path path : paths) {
            Files.delete(path);
        }
    }

    private static List<String> output(String commands, Path place) throws IOException, InterruptedException {
        Process process = new ProcessBuilder("sh", "-e", "-c", commands)
                .directory(place.toFile()).redirectError(ProcessBuilder.Redirect.INHERIT).start();
        process.getOutputStream().close();
        String printed = new String(process.getInputStream().readAllBytes(), StandardCharsets.UTF_8);
        check("these commands failed:\n" + commands, process.waitFor() == 0);
        return printed.lines().toList();
    }

    private static void examples(String readme) throws IOException, InterruptedException {
        List<String> programs = blocks(readme, "java");
        List<String> commands = blocks(readme, "sh");
        check("there is not one example", programs.size() == 1);
        check("there are no commands", !commands.isEmpty());
        if (wrong != 0) {
            return;
        }
        Path place = projectWith(programs.get(0));
        try {
            List<String> due = promised(programs.get(0));
            List<String> got = output(commands.get(0), place);
            check("the example printed " + got + ", due is " + due, got.equals(due));
            for (String more : commands.subList(1, commands.size())) {
                output(more, place);
            }
        } finally {
            delete(place);
        }
        for (Method method : TreeRevisions.class.getDeclaredMethods()) {
            check("the example does not call " + method.getName(), !Modifier.isPublic(method.getModifiers())
                    || programs.get(0).contains("store." + method.getName() + "("));
        }
    }

    /** The tables of calls have one row for each, with as many arguments as it takes. */
    private static void calls(String readme) {
        for (Method method : TreeRevisions.class.getDeclaredMethods()) {
            if (Modifier.isPublic(method.getModifiers())) {
                int rows = 0;
                for (String row : readme.split("\n")) {
                    String start = "| `" + method.getName() + "(";
                    if (row.startsWith(start)) {
                        String inside = row.substring(start.length(), row.indexOf(')'));
                        int arguments = inside.isEmpty() ? 0 : inside.split(",").length;
                        check("other arguments than the call has: " + row, arguments == method.getParameterCount());
                        rows++;
                    }
                }
                check(rows + " rows tell of " + method.getName(), rows == 1);
            }
        }
    }

    private static void tests(String readme) throws IOException {
        for (Path path : below(Path.of("src"))) {
            String name = path.getFileName().toString();
            if (name.endsWith(".java")) {
                check(name + " is not named", readme.contains(name.substring(0, name.length() - 5)));
            }
        }
        check("it is not said how to run the tests", readme.contains("\n    .ci/run\n"));
        check("there is no .ci/run to be executed", Files.isExecutable(Path.of(".ci/run")));
    }

    public static void main(String[] args) throws IOException, InterruptedException {
        String readme = Files.readString(Path.of("README.md"));
        examples(readme);
        calls(readme);
        tests(readme);
        System.out.println(wrong == 0 ? "README.md is as due" : wrong + " faults");
        if (wrong != 0) {
            System.exit(1);
        }
    }
}
