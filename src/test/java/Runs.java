import java.lang.reflect.Method;
import java.lang.reflect.Modifier;
import java.util.HashMap;
import java.util.Map;
import java.util.regex.Matcher;
import java.util.regex.Pattern;

/**
 * Runs of calls told as texts, each run to a new object:
 * "person(0, 5)=0 8*evening() digest()=$d 'talk 0 1;' read()=-1000 digest()=$d".
 * 8* asks eight times (each answer must be the one told); $d is the answer that $d had first; a
 * text in ' ' is typed behind a clear.
 */
final class Runs {
  private static final Pattern STEP = Pattern.compile(
      "\\s*(?:'([^']*)'|(?:(\\d+)\\*)?([a-z]+)\\(([^)]*)\\)(?:=(-?\\d+|\\$\\w+))?)\\s*");
  private static final Map<String, Method> CALLS = new HashMap<>();

  static {
    for (Method method : WedApart.class.getDeclaredMethods()) {
      if (Modifier.isPublic(method.getModifiers())) CALLS.put(method.getName(), method);
    }
  }

  private Runs() {
  }

  /** A sentence of the document holds by each of these runs. */
  static void hold(String sentence, String... runs) {
    for (int i = 0; i < runs.length; i++) {
      String name = runs.length == 1 ? sentence : sentence + " [" + (i + 1) + "]";
      tell(name, new WedApart(), runs[i]);
    }
  }

  /** Tells a run to an object, whatever it has been told. */
  static void tell(String sentence, WedApart x, String run) {
    Map<String, Long> kept = new HashMap<>();
    Matcher step = STEP.matcher(run);
    int place = 0;
    while (place < run.length()) {
      if (!step.find(place) || step.start() != place) {
        throw new IllegalArgumentException("no call: " + run.substring(place));
      }
      if (step.group(1) != null) {
        type(x, step.group(1));
      } else {
        int times = step.group(2) == null ? 1 : Integer.parseInt(step.group(2));
        for (int i = 0; i < times; i++) {
          long got = call(x, step.group(3), step.group(4));
          String due = step.group(5);
          if (due == null) continue;
          String at = sentence + ": " + step.group(3) + "(" + step.group(4) + ")";
          long want = due.charAt(0) != '$' ? Long.parseLong(due) : kept.getOrDefault(due, got);
          if (due.charAt(0) == '$') kept.put(due, want);
          Due.is(at, got, want);
        }
      }
      place = step.end();
    }
  }

  private static void type(WedApart x, String text) {
    x.clear();
    for (int i = 0; i < text.length(); i++) x.type(text.charAt(i));
  }

  static long call(WedApart x, String name, String told) {
    Method method = CALLS.get(name);
    if (method == null) throw new IllegalArgumentException("no such call: " + name);
    String[] words = told.isBlank() ? new String[0] : told.split(",");
    Object[] args = new Object[words.length];
    for (int i = 0; i < words.length; i++) {
      String word = words[i].trim();
      boolean isNumber = !word.equals("true") && !word.equals("false");
      if (isNumber) args[i] = Integer.valueOf(word);
      else args[i] = Boolean.valueOf(word);
    }
    try {
      return ((Number) method.invoke(x, args)).longValue();
    } catch (ReflectiveOperationException e) {
      throw new IllegalStateException(name + "(" + told + ")", e);
    }
  }
}
