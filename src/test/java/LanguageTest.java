import java.nio.file.Files;
import java.nio.file.Path;
import java.util.List;
import java.util.regex.Matcher;
import java.util.regex.Pattern;

/** What of ../shared/LANGUAGE.md can be seen from the words alone. */
public final class LanguageTest {
  private static final String[] NEVER = {
    "\\bimport\\b", "\\bpackage\\b", "\\bthrow\\b", "\\bthrows\\b", "\\btry\\b", "\\bcatch\\b",
    "\\bfinally\\b", "\\bsynchronized\\b", "\\bassert\\b", "->", "::", "\\bprotected\\b",
    "\\bvar\\b", "Exact\\b", "\\bSystem\\.(?!arraycopy)", "@", "\" \\+", "\\+ \"", "\\bfloat\\b",
    "\\bdouble\\b", "\\binstanceof\\b"};
  private static final Pattern METHOD =
      Pattern.compile("^ {2,4}(?:[a-z]+ )*[A-Za-z\\[\\]]+ [a-zA-Z]+\\((.*)$");

  public static void main(String[] args) throws Exception {
    List<String> lines = Files.readAllLines(Path.of("src/main/java/WedApart.java"));
    StringBuilder code = new StringBuilder();
    for (String line : lines) code.append(line.replaceAll("//.*|/\\*\\*.*\\*/", "")).append('\n');
    for (String word : NEVER) {
      Due.is("language: " + word, Pattern.compile(word).matcher(code).find() ? 1 : 0, 0);
    }
    Due.is("language: signs 1 to 127", code.chars().allMatch(c -> c > 0 && c < 128) ? 1 : 0, 1);
    staticsAreFinal(code);
    classes(code);
    methods(code.toString().split("\n"));
    Due.end("LanguageTest");
  }

  private static void staticsAreFinal(StringBuilder code) {
    Matcher each = Pattern.compile("\\bstatic (?!final |int |long |boolean |void )\\w+ \\w+").matcher(code);
    Due.is("language: static, neither final nor a method", each.find() ? 1 : 0, 0);
    each = Pattern.compile("\\bstatic (?:int|long|boolean) \\w+ *[=;,]").matcher(code);
    Due.is("language: a static field that is not final", each.find() ? 1 : 0, 0);
  }

  private static void classes(StringBuilder code) {
    Matcher each = Pattern.compile("(.*)\\bclass \\w+").matcher(code);
    int many = 0;
    while (each.find()) {
      many++;
      boolean fits = many == 1 ? each.group(1).equals("public final ")
          : each.group(1).contains("static ");
      Due.is("language: class " + each.group(), fits ? 1 : 0, 1);
    }
    Due.is("language: some twelve classes", many <= 12 ? 1 : 0, 1);
  }

  private static void methods(String[] lines) {
    int methods = 0;
    for (int i = 0; i < lines.length; i++) {
      Matcher head = METHOD.matcher(lines[i]);
      if (!head.find() || lines[i].contains(";") && !lines[i].endsWith("{")) continue;
      methods++;
      String indent = lines[i].replaceAll("\\S.*", "");
      int end = i;
      while (end < lines.length && !lines[end].equals(indent + "}")) end++;
      Due.is("language: length of " + lines[i].trim(), end - i < 60 ? 1 : 0, 1);
      int parameters = (head.group(1) + lines[i + 1]).split("\\)")[0].split(",").length;
      Due.is("language: parameters of " + lines[i].trim(), parameters <= 7 ? 1 : 0, 1);
    }
    Due.is("language: methods seen", methods > 60 ? 1 : 0, 1);
  }
}
