import java.io.IOException;
import java.lang.reflect.Method;
import java.lang.reflect.Modifier;
import java.net.URL;
import java.net.URLClassLoader;
import java.nio.file.Files;
import java.nio.file.Path;
import java.util.List;
import java.util.regex.Matcher;
import java.util.regex.Pattern;
import java.util.stream.Collectors;
import java.util.stream.Stream;
import javax.tools.ToolProvider;

// README.md is there, says what it has to say, and its example is true.
public final class ReadmeTests {
  private static final Path README = Path.of("README.md");
  private static final Path TESTS = Path.of("src/test/java");

  private static final Pattern EXAMPLE = Pattern.compile("```java\n(.*?)```", Pattern.DOTALL);
  // A call, perhaps kept under a name, with the answer that is due beside it.
  private static final Pattern ANSWERED =
      Pattern.compile("(?:(\\w+) (\\w+) = )?(yard\\.\\w+\\(.*\\));\\s*// ([-\\w]+): .*");

  private static int wrong = 0;
  private static int seen = 0;

  private static void hold(boolean holds, String what) {
    seen++;
    if (holds) return;
    wrong++;
    System.out.println("does not hold: " + what);
  }

  // Called by the example, too.
  public static void due(String call, Object got, Object want) {
    hold(String.valueOf(got).equals(String.valueOf(want)), call + " answered " + got + ", README.md says " + want);
  }

  public static void main(String[] args) throws IOException, ReflectiveOperationException {
    hold(Files.isRegularFile(README), "README.md is there");
    if (Files.isRegularFile(README)) {
      String text = Files.readString(README);
      says(text);
      namesAllCalls(text);
      namesAllTests(text);
      exampleIsTrue(text);
    }
    System.out.println(seen + " things about README.md, " + wrong + " do not hold");
    if (wrong != 0) System.exit(1);
  }

  private static void says(String text) {
    for (String part : List.of("### Made", "### Told", "### Laid out", "### Asked",
        "### The answers NONE, NOWHERE and false", "## How to run its tests")) {
      hold(text.contains("\n" + part + "\n"), "README.md has a part " + part);
    }
    hold(text.contains("at most 512 calls"), "README.md says for how many calls an object is used");
    hold(text.contains("`VeneerYard.NONE` (" + VeneerYard.NONE + ")"), "README.md says what NONE is");
    hold(text.contains("`VeneerYard.NOWHERE` (-2^63)") && VeneerYard.NOWHERE == -1L << 63,
        "README.md says what NOWHERE is");
    hold(text.contains("\n.ci/run\n"), "README.md says how to run the tests");
  }

  private static void namesAllCalls(String text) {
    for (Method m : VeneerYard.class.getDeclaredMethods()) {
      if (!Modifier.isPublic(m.getModifiers())) continue;
      hold(text.contains("`" + m.getName() + "("), "README.md says what " + m.getName() + " is for");
    }
  }

  private static void namesAllTests(String text) throws IOException {
    try (Stream<Path> files = Files.list(TESTS)) {
      for (Path file : files.collect(Collectors.toList())) {
        String name = file.getFileName().toString().replace(".java", "");
        hold(text.contains("- `" + name + "`: "), "README.md says what " + name + " tests");
      }
    }
  }

  private static void exampleIsTrue(String text) throws IOException, ReflectiveOperationException {
    Matcher example = EXAMPLE.matcher(text);
    boolean found = example.find();
    hold(found, "README.md has an example");
    if (!found) return;
    Path folder = Files.createTempDirectory("readme");
    Path file = folder.resolve("Example.java");
    Files.writeString(file, asProgram(example.group(1)));
    int compiled = ToolProvider.getSystemJavaCompiler().run(null, null, null,
        "-cp", System.getProperty("java.class.path"), "-d", folder.toString(), file.toString());
    hold(compiled == 0, "the example compiles");
    if (compiled == 0) {
      int before = seen;
      try (URLClassLoader loader = new URLClassLoader(new URL[] {folder.toUri().toURL()})) {
        loader.loadClass("Example").getMethod("run").invoke(null);
      }
      hold(seen - before >= 15, "the example shows answers");
    }
    Files.deleteIfExists(folder.resolve("Example.class"));
    Files.deleteIfExists(file);
    Files.deleteIfExists(folder);
  }

  private static String asProgram(String example) {
    StringBuilder program = new StringBuilder("public class Example {\n");
    program.append("  private static final Object NONE = VeneerYard.NONE;\n");
    program.append("  private static final Object NOWHERE = VeneerYard.NOWHERE;\n");
    program.append("  public static void run() {\n");
    for (String line : example.split("\n")) program.append(asCheck(line)).append('\n');
    return program.append("  }\n}\n").toString();
  }

  private static String asCheck(String line) {
    Matcher m = ANSWERED.matcher(line);
    if (!m.matches()) return line;
    String call = m.group(3);
    String kept = m.group(2);
    String check = "ReadmeTests.due(\"" + call + "\", " + (kept == null ? call : kept) + ", " + m.group(4) + ");";
    return kept == null ? check : m.group(1) + " " + kept + " = " + call + "; " + check;
  }
}
