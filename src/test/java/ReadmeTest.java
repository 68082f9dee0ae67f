import java.io.File;
import java.lang.reflect.Method;
import java.lang.reflect.Modifier;
import java.net.URL;
import java.net.URLClassLoader;
import java.nio.file.Files;
import java.nio.file.Path;
import java.util.ArrayList;
import java.util.List;
import java.util.regex.Matcher;
import java.util.regex.Pattern;
import java.util.spi.ToolProvider;

/** README.md: its examples answer what stands behind them, and it leaves out no call and no test. */
public final class ReadmeTest {
  private static final Pattern BLOCK = Pattern.compile("```java\n(.*?)```", Pattern.DOTALL);
  private static final Pattern ANSWER =
      Pattern.compile("(?:int \\w+ = )?(town\\.\\w+\\(.*\\));\\s+// (-?\\d+)(?:[:; ].*)?");

  private static int answers = 0;

  public static void main(String[] args) throws Exception {
    String readme = Files.readString(Path.of("README.md"));
    List<String> examples = new ArrayList<>();
    Matcher block = BLOCK.matcher(readme);
    while (block.find()) examples.add(block.group(1));
    Due.is("examples", examples.size(), 2);
    run(examples);
    Due.is("answers of the examples", answers, 20);
    for (Method method : WedApart.class.getDeclaredMethods()) {
      boolean isTold = readme.contains("| `" + method.getName() + "(")
          || readme.contains(", `" + method.getName() + "(");
      if (Modifier.isPublic(method.getModifiers())) Due.is(method.getName(), isTold ? 1 : 0, 1);
    }
    for (String name : new File("src/test/java").list()) {
      String test = name.replace(".java", "");
      if (test.endsWith("Test")) Due.is(test, readme.contains("`" + test + "`") ? 1 : 0, 1);
    }
    Due.end("ReadmeTest");
  }

  /** Public, since the examples are of another class loader. */
  public static void is(String call, long got, long want) {
    answers++;
    Due.is(call, got, want);
  }

  /** Each example's lines as they stand, but that an answer told behind one is asked. */
  private static void run(List<String> examples) throws Exception {
    StringBuilder source = new StringBuilder("public final class Examples {\n");
    for (int i = 0; i < examples.size(); i++) {
      source.append("  public static void example").append(i).append("() {\n");
      for (String line : examples.get(i).split("\n")) source.append(asked(line)).append('\n');
      source.append("  }\n");
    }
    Path place = Files.createTempDirectory("readme");
    Path file = place.resolve("Examples.java");
    Files.writeString(file, source.append("}\n"));
    int failed = ToolProvider.findFirst("javac").orElseThrow().run(System.out, System.out,
        "-cp", System.getProperty("java.class.path"), "-d", place.toString(), file.toString());
    Due.is("the examples compile", failed, 0);
    if (failed == 0) call(place, examples.size());
    Files.deleteIfExists(place.resolve("Examples.class"));
    Files.deleteIfExists(file);
    Files.deleteIfExists(place);
  }

  private static void call(Path place, int examples) throws Exception {
    try (URLClassLoader loader = new URLClassLoader(new URL[] {place.toUri().toURL()})) {
      for (int i = 0; i < examples; i++) loader.loadClass("Examples").getMethod("example" + i).invoke(null);
    }
  }

  private static String asked(String line) {
    Matcher answer = ANSWER.matcher(line);
    if (!answer.matches()) return line;
    String call = answer.group(1);
    String due = "ReadmeTest.is(\"README: " + call.replace("\"", "\\\"") + "\", ";
    int name = line.indexOf(" = ");
    if (!line.startsWith("int ")) return due + call + ", " + answer.group(2) + ");";
    return line + "\n" + due + line.substring(4, name) + ", " + answer.group(2) + ");";
  }
}
