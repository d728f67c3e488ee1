import java.io.IOException;
import java.lang.reflect.Method;
import java.lang.reflect.Modifier;
import java.nio.file.Files;
import java.nio.file.Path;
import java.util.List;
import java.util.Set;
import java.util.TreeSet;
import java.util.regex.Matcher;
import java.util.regex.Pattern;

/** Prints a test, ReadmeRun, which makes the calls that README.md shows and compares the answers that stand there. */
public final class ReadmeCalls {
    private static final String MADE = "WetMosaic mosaic = new WetMosaic();";
    private static final Pattern LINE = Pattern.compile(
        "(?:int (\\w+) = )?(mosaic\\.(\\w+)\\([^()\"]*\\)); *// (?:throws (\\w+)|([-.\\w]+)), .+");

    private final StringBuilder test = new StringBuilder();
    private final Set<String> shown = new TreeSet<>();

    private void addAll(List<String> lines) {
        boolean isCode = false;
        for (int at = 0; at < lines.size(); at++) {
            String line = lines.get(at);
            if (line.startsWith("```")) {
                isCode = line.equals("```java");
            } else if (isCode && !line.isBlank()) {
                add("line " + (at + 1), line);
            }
        }
    }

    private void add(String where, String line) {
        Matcher found = LINE.matcher(line);
        if (line.equals(MADE)) {
            put(MADE);
        } else if (found.matches()) {
            addCall(where, found);
        } else {
            fail(where + " is no call with its answer: " + line);
        }
    }

    private void addCall(String where, Matcher found) {
        String name = found.group(1);
        String call = found.group(2);
        shown.add(found.group(3));
        String what = '"' + where + ", " + call + '"';
        if (found.group(4) != null) {
            put("thrown = \"no exception\";");
            put("try { " + call + "; } catch (RuntimeException e) { thrown = e.getClass().getSimpleName(); }");
            put("due(" + what + ", thrown, \"" + found.group(4) + "\");");
            return;
        }
        if (name != null) {
            put("int " + name + " = " + call + ";");
        }
        String answer = name != null ? name : call;
        put("due(" + what + ", String.valueOf(" + answer + "), \"" + found.group(5) + "\");");
    }

    private void put(String line) {
        test.append("        ").append(line).append('\n');
    }

    /** README.md leaves out no call of the face. */
    private void needEveryMethod() {
        for (Method method : WetMosaic.class.getDeclaredMethods()) {
            if (Modifier.isPublic(method.getModifiers()) && !shown.contains(method.getName())) {
                fail("no call of " + method.getName());
            }
        }
    }

    /** README.md names every test of the project. */
    private static void needEveryTest(List<String> lines, List<String> files) {
        for (String file : files) {
            String name = Path.of(file).getFileName().toString().replace(".java", "");
            if (lines.stream().noneMatch(line -> line.contains('`' + name + '`'))) {
                fail("no word on the test " + name);
            }
        }
    }

    private static void fail(String why) {
        System.err.println("README.md: " + why);
        System.exit(1);
    }

    public static void main(String[] args) throws IOException {
        List<String> files = List.of(args);
        List<String> lines = Files.readAllLines(Path.of(files.get(0)));
        ReadmeCalls calls = new ReadmeCalls();
        calls.addAll(lines);
        calls.needEveryMethod();
        needEveryTest(lines, files.subList(1, files.size()));
        System.out.println("public final class ReadmeRun extends MosaicTest {");
        System.out.println("    public static void main(String[] args) {");
        System.out.println("        says(\"README.md\");");
        System.out.println("        String thrown;");
        System.out.print(calls.test);
        System.out.println("        finish();");
        System.out.println("    }");
        System.out.println("}");
    }
}
