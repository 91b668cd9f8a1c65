import java.io.IOException;
import java.lang.reflect.Method;
import java.lang.reflect.Modifier;
import java.nio.file.Files;
import java.nio.file.Path;
import java.util.ArrayList;
import java.util.Collections;
import java.util.List;
import java.util.Set;
import java.util.TreeSet;
import java.util.regex.Matcher;
import java.util.regex.Pattern;
import java.util.stream.Stream;

/** What README.md says is so: its program prints what it says, its commands end well, its names and numbers are the class's. */
public final class ReadmeTest {
    private static final Check check = new Check();
    private static final Path TESTS = Path.of("src/test/java");

    public static void main(String[] args) throws IOException, InterruptedException {
        String readme = Files.readString(Path.of("README.md"));
        commands(readme);
        answers(readme);
        calls(readme);
        tests(readme);
        classes(readme);
        check.end("ReadmeTest");
    }

    private static void stands(String what, boolean so) {
        check.due(what + " stands as README.md says, which", 1, so ? 1 : 0);
    }

    private static List<String> found(String text, String pattern) {
        List<String> all = new ArrayList<>();
        for (Matcher m = Pattern.compile(pattern).matcher(text); m.find(); ) all.add(m.group(1));
        return all;
    }

    /** Runs the commands in a copy, so that nothing is left in this folder. */
    private static void commands(String readme) throws IOException, InterruptedException {
        List<String> programs = found(readme, "(?s)```java\n(.*?)```");
        List<String> blocks = found(readme, "(?s)```sh\n(.*?)```");
        stands("one program, two blocks of commands", programs.size() == 1 && blocks.size() == 2);
        if (programs.size() != 1) return;
        Path folder = Files.createTempDirectory("readme");
        try {
            copy(Path.of("src"), folder);
            Files.writeString(folder.resolve("Example.java"), programs.get(0));
            for (String block : blocks) {
                for (String line : block.split("\n")) command(folder, line, programs.get(0));
            }
        } finally {
            remove(folder);
        }
    }

    private static void command(Path folder, String line, String program) throws IOException, InterruptedException {
        Process process = new ProcessBuilder("sh", "-c", line).directory(folder.toFile()).redirectErrorStream(true).start();
        process.getOutputStream().close();
        String printed = new String(process.getInputStream().readAllBytes());
        check.due(line, 0, process.waitFor());
        if (!line.endsWith(" Example")) return;
        List<String> due = found(program, "println\\(.*// (-?\\d+)");
        List<String> lines = List.of(printed.trim().split("\\s+"));
        stands("the program's answers " + lines + ", said are " + due + ": this", due.size() > 1 && due.equals(lines));
    }

    private static void copy(Path from, Path to) throws IOException {
        for (Path one : all(from)) {
            Path target = to.resolve(one.toString());
            if (Files.isDirectory(one)) Files.createDirectories(target);
            else Files.copy(one, target);
        }
    }

    private static void remove(Path folder) throws IOException {
        List<Path> all = all(folder);
        Collections.reverse(all);
        for (Path one : all) Files.delete(one);
    }

    private static List<Path> all(Path folder) throws IOException {
        try (Stream<Path> walk = Files.walk(folder)) {
            return new ArrayList<>(walk.sorted().toList());
        }
    }

    /** The constants stand in the order in which the first of several is answered. */
    private static void answers(String readme) {
        List<String> rows = found(readme, "\n\\| (`[A-Z]+` \\| -\\d+) \\|");
        List<String> due = List.of("`BAD` | " + HangingCards.BAD, "`NO` | " + HangingCards.NO,
            "`NONE` | " + HangingCards.NONE, "`FULL` | " + HangingCards.FULL);
        stands("the table of constants " + rows, rows.equals(due));
        stands("mixed's answer in place of BAD", readme.contains("`mixed` answers " + new HangingCards().mixed(3, 1, 0) + " in place of `BAD`"));
    }

    /** Each call of the class stands in the table of calls once, and no other does. */
    private static void calls(String readme) {
        List<String> told = new ArrayList<>();
        for (String row : found(readme, "\n\\| ((?:`[a-zA-Z]+`(?:, )?){3,}) \\|")) told.addAll(found(row, "`([a-zA-Z]+)`"));
        Collections.sort(told);
        Set<String> due = new TreeSet<>();
        for (Method m : HangingCards.class.getDeclaredMethods()) {
            if (Modifier.isPublic(m.getModifiers())) due.add(m.getName());
        }
        stands("the table of calls " + told, told.equals(List.copyOf(due)));
    }

    private static void tests(String readme) throws IOException {
        Set<String> told = new TreeSet<>(found(readme, "`([A-Za-z]+Test)`"));
        Set<String> due = new TreeSet<>();
        for (Path one : all(TESTS)) {
            String name = one.getFileName().toString();
            if (name.endsWith("Test.java")) due.add(name.substring(0, name.length() - 5));
        }
        stands("the list of tests " + told, told.equals(due));
        stands(".ci/run", readme.contains("    bash .ci/run\n") && Files.isExecutable(Path.of(".ci/run")));
    }

    private static void classes(String readme) {
        String built = readme.substring(Math.max(0, readme.indexOf("## How it is built")));
        Set<String> told = new TreeSet<>(found(built, "`([A-Z][a-z]+)`"));
        Set<String> due = new TreeSet<>();
        for (Class<?> one : HangingCards.class.getDeclaredClasses()) due.add(one.getSimpleName());
        stands("the list of classes inside " + told, told.equals(due));
    }
}
