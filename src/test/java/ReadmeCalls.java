import java.io.IOException;
import java.lang.reflect.Method;
import java.lang.reflect.Modifier;
import java.nio.file.Files;
import java.nio.file.Path;
import java.util.ArrayList;
import java.util.List;
import java.util.Set;
import java.util.TreeSet;
import java.util.regex.Matcher;
import java.util.regex.Pattern;

/**
 * Makes a test of the calls that README.md shows: its java blocks, in order, as one main method in
 * which each call is held against the answer that stands behind it.
 */
final class ReadmeCalls {
    private static final String NAME = "ReadmeTest";
    private static final Pattern CALL = Pattern.compile("\\bpost\\.(\\w+)\\(");
    /** A call, kept in a variable or not, and behind // its answer, up to a colon or the end. */
    private static final Pattern ANSWERED =
            Pattern.compile("\\s*(?:int (\\w+) = )?(post\\..+); *// (throws )?([^:]+?)(?:: .*)?");

    private final List<String> test = new ArrayList<>();
    private final Set<String> shown = new TreeSet<>();
    private final List<String> faults = new ArrayList<>();

    private void take(List<String> readme) {
        boolean inBlock = false;
        for (int i = 0; i < readme.size(); i++) {
            String line = readme.get(i);
            if (line.startsWith("```")) {
                inBlock = !inBlock && line.equals("```java");
            } else if (inBlock) {
                takeLine(i + 1, line);
            }
        }
        if (inBlock) {
            faults.add("the last block has no end");
        }
    }

    private void takeLine(int number, String line) {
        Set<String> calls = callsIn(line);
        shown.addAll(calls);
        Matcher answered = ANSWERED.matcher(line);
        if (answered.matches()) {
            takeAnswer("\"README.md line " + number + "\"", answered);
            return;
        }
        test.add(line);
        // Only sign answers nothing.
        calls.remove("sign");
        for (String call : calls) {
            faults.add("line " + number + " shows a call of " + call + " without its answer");
        }
    }

    private static Set<String> callsIn(String line) {
        Set<String> calls = new TreeSet<>();
        Matcher call = CALL.matcher(line);
        while (call.find()) {
            calls.add(call.group(1));
        }
        return calls;
    }

    private void takeAnswer(String what, Matcher line) {
        String variable = line.group(1);
        String call = line.group(2);
        String due = line.group(4);
        if (line.group(3) != null) {
            test.add("check.equal(" + what + ", Check.outcome(() -> { " + call + "; return 0; }), \"" + due + "\");");
        } else if (variable != null) {
            test.add("int " + variable + " = " + call + ";");
            test.add("check.same(" + what + ", " + variable + ", " + due + ");");
        } else {
            test.add("check.equal(" + what + ", Check.outcome(() -> " + call + "), Long.toString(" + due + "));");
        }
    }

    private void lookForAllMethods() {
        for (Method method : LineTimes.class.getDeclaredMethods()) {
            if (Modifier.isPublic(method.getModifiers()) && !shown.contains(method.getName())) {
                faults.add("no call of " + method.getName() + " is shown");
            }
        }
    }

    private List<String> source() {
        List<String> source = new ArrayList<>();
        source.add("final class " + NAME + " {");
        source.add("public static void main(String[] args) {");
        source.add("Check check = new Check();");
        source.addAll(test);
        source.add("check.end();");
        source.add("}");
        source.add("}");
        return source;
    }

    /** Takes README.md and the folder for the test's source. */
    public static void main(String[] args) throws IOException {
        ReadmeCalls calls = new ReadmeCalls();
        calls.take(Files.readAllLines(Path.of(args[0])));
        calls.lookForAllMethods();
        for (String fault : calls.faults) {
            System.out.println(args[0] + ": " + fault);
        }
        Path folder = Files.createDirectories(Path.of(args[1]));
        Files.write(folder.resolve(NAME + ".java"), calls.source());
        System.exit(calls.faults.isEmpty() ? 0 : 1);
    }
}
