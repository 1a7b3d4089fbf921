import java.io.File;
import java.io.IOException;
import java.lang.reflect.Method;
import java.lang.reflect.Modifier;
import java.nio.file.Files;
import java.nio.file.Path;
import java.util.ArrayList;
import java.util.List;
import java.util.regex.Matcher;
import java.util.regex.Pattern;

/**
 * Runs what README.md shows: its Java as one program in which each call must have the answer that
 * stands behind it, and its commands as they stand there.
 */
public final class ReadmeTest {
    private static final Path README = Path.of("README.md");
    private static final Path CI = Path.of(".ci", "run");
    private static final String PROGRAM = "ReadmeUse";
    private static final String NEW_COURT = "RuleCourt court = new RuleCourt();";
    private static final Pattern BLOCK = Pattern.compile("(?ms)^```(\\w+)\\n(.*?)^```$");
    private static final Pattern ASKED =
        Pattern.compile("(.+?);\\s*// (throws \\w+|NONE|true|false|-?\\d+)\\b.*");

    private ReadmeTest() {
    }

    public static void main(String[] args) throws IOException, InterruptedException {
        String readme = Files.readString(README);
        showsTheWholeFace(readme);
        runCalls(blocks(readme, "java"));
        runCommands(blocks(readme, "sh"));
        Checks.end("ReadmeTest");
    }

    private static List<String> blocks(String readme, String language) {
        List<String> found = new ArrayList<>();
        Matcher block = BLOCK.matcher(readme);
        while (block.find()) {
            if (block.group(1).equals(language)) {
                found.add(block.group(2));
            }
        }
        Checks.due("README.md shows " + language, !found.isEmpty(), true);
        return found;
    }

    private static void showsTheWholeFace(String readme) {
        for (Method method : RuleCourt.class.getDeclaredMethods()) {
            if (Modifier.isPublic(method.getModifiers())) {
                String call = "\ncourt." + method.getName() + "(";
                Checks.due("README.md shows " + method.getName(), readme.contains(call), true);
            }
        }
    }

    private static void runCalls(List<String> blocks) throws IOException, InterruptedException {
        StringBuilder methods = new StringBuilder();
        StringBuilder calls = new StringBuilder();
        for (String block : blocks) {
            if (block.startsWith("static ")) {
                methods.append(block);
            } else {
                block.lines().forEach(line -> calls.append(asked(line)).append('\n'));
            }
        }
        String program = "public final class " + PROGRAM + " {\n" + methods
            + "public static void main(String[] args) {\n" + calls
            + "Checks.end(\"the calls of README.md\");\n}\n}\n";
        Path directory = Files.createTempDirectory("readme");
        Path file = directory.resolve(PROGRAM + ".java");
        Files.writeString(file, program);
        String given = System.getProperty("java.class.path");
        String all = given + File.pathSeparator + directory;
        int compiled = exitOf(tool("javac"), "-cp", given, "-d", directory.toString(),
            file.toString());
        Checks.due("the exit code of javac of README.md's calls", compiled, 0);
        Checks.due("the exit code of README.md's calls", exitOf(tool("java"), "-cp", all, PROGRAM), 0);
        Files.deleteIfExists(directory.resolve(PROGRAM + ".class"));
        Files.delete(file);
        Files.delete(directory);
    }

    private static String tool(String name) {
        return Path.of(System.getProperty("java.home"), "bin", name).toString();
    }

    /** The statement that asks whether a line's call has the answer behind it. */
    private static String asked(String line) {
        if (line.equals(NEW_COURT)) {
            return line;
        }
        Matcher asked = ASKED.matcher(line);
        if (!asked.matches()) {
            Checks.due("an answer stands behind: " + line, 0, 1);
            return "";
        }
        String call = asked.group(1);
        String answer = asked.group(2);
        String what = "\"" + call.replace("\"", "\\\"") + "\"";
        if (answer.startsWith("throws ")) {
            String exception = answer.substring("throws ".length());
            return "{ String thrown = \"nothing\"; try { " + call + "; } catch (RuntimeException e)"
                + " { thrown = e.getClass().getSimpleName(); } Checks.due(" + what
                + " + \" throws \" + thrown, thrown.equals(\"" + exception + "\"), true); }";
        }
        String want = answer.equals("NONE") ? "RuleCourt.NONE" : answer;
        return "Checks.due(" + what + ", " + call + ", " + want + ");";
    }

    private static void runCommands(List<String> blocks) throws IOException, InterruptedException {
        for (String block : blocks) {
            if (block.strip().equals(".ci/run")) {
                // It is what runs this test: it can't be run from here.
                Checks.due(".ci/run can be run", Files.isExecutable(CI), true);
            } else {
                Checks.due("the exit code of: " + block, exitOf("sh", "-e", "-c", block), 0);
            }
        }
    }

    private static int exitOf(String... command) throws IOException, InterruptedException {
        return new ProcessBuilder(command).inheritIO().start().waitFor();
    }
}
