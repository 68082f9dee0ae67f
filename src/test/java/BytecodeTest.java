import java.io.PrintWriter;
import java.io.StringWriter;
import java.lang.reflect.Field;
import java.lang.reflect.Method;
import java.lang.reflect.Modifier;
import java.nio.file.Path;
import java.util.ArrayList;
import java.util.HashMap;
import java.util.List;
import java.util.Map;
import java.util.Set;
import java.util.TreeSet;
import java.util.regex.Matcher;
import java.util.regex.Pattern;
import java.util.spi.ToolProvider;

/** What of ../shared/LANGUAGE.md is seen in the compiled class, not in its words. */
public final class BytecodeTest {
  private static final Set<String> LIBRARY = Set.of("java/lang/Object.\"<init>\"",
      "java/lang/Integer.bitCount", "java/lang/Integer.lowestOneBit", "java/lang/Math.max",
      "java/lang/Math.min", "java/lang/System.arraycopy", "java/lang/String.length",
      "java/lang/String.charAt");
  private static final Pattern CLASS = Pattern.compile("^[a-z ]*\\bclass (\\S+).*");
  private static final Pattern HEAD = Pattern.compile("^  \\S.*?([\\w$.]+)\\(.*\\);$");
  private static final Pattern CALL = Pattern.compile("\\binvoke\\w+ .*// (?:Interface)?Method (\\S+):.*");
  private static final Pattern NEVER = Pattern.compile(
      ": (athrow|monitorenter|invokedynamic|checkcast|instanceof|jsr)\\b");

  private static final Map<String, Set<String>> calls = new HashMap<>();

  public static void main(String[] args) throws Exception {
    List<Class<?>> classes = new ArrayList<>(List.of(WedApart.class.getDeclaredClasses()));
    classes.add(WedApart.class);
    for (Class<?> each : classes) shape(each);
    Due.is("rule 11: some twelve classes", classes.size() <= 12 ? 1 : 0, 1);
    ToolProvider javap = ToolProvider.findFirst("javap").orElse(null);
    if (javap != null) {
      read(told(javap, classes));
      Due.is("methods seen", calls.size() > 80 ? 1 : 0, 1);
      for (String method : calls.keySet()) {
        if (!method.matches("WedApart\\.\\w+")) continue;
        List<String> deep = deepest(method, new TreeSet<>(Set.of(method)));
        Due.is("rule 11: calls at most eight deep " + deep, deep.size() <= 8 ? 1 : 0, 1);
      }
    }
    Due.end("BytecodeTest");
  }

  private static void shape(Class<?> each) {
    int fields = 0;
    for (Field field : each.getDeclaredFields()) {
      int is = field.getModifiers();
      if (Modifier.isStatic(is)) Due.is("rule 5: final " + field, Modifier.isFinal(is) ? 1 : 0, 1);
      else fields++;
    }
    Due.is("rule 11: some twenty fields " + each, fields <= 20 ? 1 : 0, 1);
    if (each != WedApart.class) {
      Due.is("rule 2: static " + each, Modifier.isStatic(each.getModifiers()) ? 1 : 0, 1);
      Due.is("rule 1: not open " + each,
          Modifier.isPublic(each.getModifiers()) || Modifier.isProtected(each.getModifiers()) ? 1 : 0, 0);
    }
    for (Method method : each.getDeclaredMethods()) {
      Due.is("rule 11: parameters of " + method, method.getParameterCount() <= 7 ? 1 : 0, 1);
    }
  }

  private static String told(ToolProvider javap, List<Class<?>> classes) throws Exception {
    Path home = Path.of(WedApart.class.getProtectionDomain().getCodeSource().getLocation().toURI());
    List<String> args = new ArrayList<>(List.of("-p", "-c"));
    for (Class<?> each : classes) args.add(home.resolve(each.getName() + ".class").toString());
    StringWriter out = new StringWriter();
    PrintWriter to = new PrintWriter(out);
    Due.is("javap", javap.run(to, to, args.toArray(new String[0])), 0);
    return out.toString();
  }

  private static void read(String told) {
    String owner = "";
    Set<String> called = new TreeSet<>();
    for (String line : told.split("\n")) {
      Matcher head = CLASS.matcher(line);
      Matcher method = HEAD.matcher(line);
      Matcher call = CALL.matcher(line);
      if (head.matches()) {
        owner = head.group(1);
      } else if (method.matches()) {
        String name = method.group(1).equals(owner) ? "\"<init>\"" : method.group(1);
        called = calls.computeIfAbsent(owner + "." + name, key -> new TreeSet<>());
      } else if (call.find()) {
        String target = call.group(1).indexOf('.') < 0 ? owner + "." + call.group(1) : call.group(1);
        called.add(target);
        if (!target.startsWith("WedApart")) {
          Due.is("rule 4: no library but what is told: " + target, LIBRARY.contains(target) ? 1 : 0, 1);
        }
      }
      Due.is("rule 6: " + line.trim(), NEVER.matcher(line).find() ? 1 : 0, 0);
    }
  }

  /** The longest row of calls from a method on; a method that stands in it is not gone into again. */
  private static List<String> deepest(String method, Set<String> open) {
    List<String> best = new ArrayList<>();
    for (String next : calls.getOrDefault(method, Set.of())) {
      if (!open.add(next)) continue;
      List<String> row = deepest(next, open);
      if (row.size() > best.size()) best = row;
      open.remove(next);
    }
    best.add(0, method);
    return best;
  }
}
