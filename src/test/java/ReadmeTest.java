import java.io.File;
import java.io.IOException;
import java.lang.reflect.Method;
import java.lang.reflect.Modifier;
import java.nio.file.Files;
import java.nio.file.Path;
import java.util.ArrayList;
import java.util.List;
import java.util.Set;
import java.util.TreeSet;
import java.util.regex.Matcher;
import java.util.regex.Pattern;

/** What README.md says holds: its program, what this prints, its commands, and its calls. */
public final class ReadmeTest {
    private static final Path README = Path.of("README.md");
    private static final Path EXAMPLE = Path.of("src", "example", "java", "Example.java");
    private static final String RUN = ".ci/run";

    /** A call in the table of calls: its name and the names of its arguments. */
    private static final Pattern CALL = Pattern.compile("^\\| `(\\w+)\\(([^)]*)\\)` \\|", Pattern.MULTILINE);

    public static void main(String[] args) throws IOException, InterruptedException {
        String text = Files.readString(README);
        Checks.is("the program", String.join("\n", blocks(text, "java")), Files.readString(EXAMPLE));
        checkCommands(text);
        checkCalls(text);
        Checks.end("ReadmeTest");
    }

    /** Returns what stands in the blocks of a language, one after the other. */
    private static List<String> blocks(String text, String language) {
        List<String> found = new ArrayList<>();
        Matcher block = Pattern.compile("^```" + language + "\n(.*?)^```$", Pattern.MULTILINE | Pattern.DOTALL)
                .matcher(text);
        while (block.find()) {
            found.add(block.group(1));
        }
        return found;
    }

    /** The command that runs all tests is not run here: it runs this one. */
    private static void checkCommands(String text) throws IOException, InterruptedException {
        String printed = "";
        boolean runsAll = false;
        int others = 0;
        for (String block : blocks(text, "sh")) {
            for (String command : block.split("\n")) {
                if (command.equals(RUN)) {
                    runsAll = true;
                    continue;
                }
                String output = output(command);
                printed = command.endsWith(" Example") ? output : printed;
                others++;
            }
        }
        Checks.is("tells how to run all tests", runsAll && new File(RUN).canExecute() ? 1 : 0, 1);
        Checks.is("commands for the program, and for one test", others, 4);
        Checks.is("what the program prints", printed, String.join("\n", blocks(text, "text")));
    }

    private static String output(String command) throws IOException, InterruptedException {
        Process process = new ProcessBuilder("sh", "-c", command)
                .redirectError(ProcessBuilder.Redirect.INHERIT).start();
        process.getOutputStream().close();
        String output = new String(process.getInputStream().readAllBytes());
        int code = process.waitFor();
        Checks.is(command + " ends; it printed " + output, code, 0);
        return output;
    }

    private static void checkCalls(String text) {
        Set<String> told = new TreeSet<>();
        Matcher call = CALL.matcher(text);
        while (call.find()) {
            String arguments = call.group(2);
            told.add(call.group(1) + " of " + (arguments.isEmpty() ? 0 : arguments.split(", ").length));
        }
        Set<String> due = new TreeSet<>();
        for (Method method : InvoiceSmith.class.getDeclaredMethods()) {
            if (Modifier.isPublic(method.getModifiers())) {
                due.add(method.getName() + " of " + method.getParameterCount());
            }
        }
        Checks.is("the calls", told.toString(), due.toString());
    }
}
