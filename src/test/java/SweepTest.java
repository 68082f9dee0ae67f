import java.lang.reflect.Method;
import java.lang.reflect.Modifier;
import java.util.ArrayList;
import java.util.Arrays;
import java.util.Comparator;
import java.util.List;

/**
 * Every call with every number at an edge that the document names (and far from all of them), in
 * towns of nobody to six, held against the Model: the answer, STATUS, and what there is behind it.
 */
public final class SweepTest {
  private static final int[] EDGES = {Integer.MIN_VALUE, -1024, -11, -5, -4, -3, -2, -1, 0, 1, 2, 3, 4,
      5, 6, 7, 8, 9, 10, 11, 12, 13, 19, 20, 21, 39, 40, 41, 126, 127, 128, 149, 150, 151, 199, 200, 201,
      511, 512, 1022, 1023, 1024, 999998, 999999, 1000000, 2147483646, Integer.MAX_VALUE};
  private static final int[] FEW = {Integer.MIN_VALUE, -2, -1, 0, 1, 4, 5, 6, Integer.MAX_VALUE};
  private static final int[] THIRDS = {-1, 0, 1, 2, 5, 6, 41};
  private static final int[] LASTS = {-2, -1, 0, 1, 4, 20, 21, 999999, 1000000};

  /** Towns, each a run of calls with the numbers apart. */
  private static final String[][] TOWNS = {
    {},
    {"person 3 700", "evening", "type 59"},
    {"person 2 0", "person 4 15", "talk 0 1", "couple 3 true", "evening"},
    {"person 4 1", "person 0 3", "person 3 77", "weighty 65", "licence 1 6", "talk 1 0", "talk 2 1",
        "image 0", "meet 0 2", "seen 1 3"},
    {"person 0 0", "person 1 5", "person 2 9", "person 3 700", "person 4 1023", "person 5 33",
        "weighty 6", "licence 1 7", "talk 0 1", "talk 2 3", "talk 4 5", "talk 5 0", "talk 3 1",
        "talk 1 4", "talk 2 5", "talk 0 3", "couple 3 true", "couple 9 false", "couple 4 true",
        "couple 0 false", "couple 1 false", "couple 20 false", "couple 5 true", "couple 11 false",
        "couple 12 false", "couple 13 false", "child 0 4 1 3", "image 1", "evening", "meet 3 4"}};

  public static void main(String[] args) throws Exception {
    List<Method> face = new ArrayList<>();
    for (Method method : Model.class.getDeclaredMethods()) {
      if (Modifier.isPublic(method.getModifiers())) face.add(method);
    }
    face.sort(Comparator.comparing(Method::getName));
    for (int town = 0; town < TOWNS.length; town++) {
      for (Method method : face) sweep(town, method, new Object[method.getParameterCount()], 0);
    }
    Due.end("SweepTest");
  }

  private static void sweep(int town, Method method, Object[] args, int i) throws Exception {
    if (i == args.length) {
      ask(town, method, args);
      return;
    }
    if (method.getParameterTypes()[i] == boolean.class) {
      for (boolean is : new boolean[] {true, false}) {
        args[i] = is;
        sweep(town, method, args, i + 1);
      }
      return;
    }
    for (int number : numbers(args.length, i)) {
      args[i] = number;
      sweep(town, method, args, i + 1);
    }
  }

  private static int[] numbers(int parameters, int i) {
    if (parameters < 3) return EDGES;
    return i < 2 ? FEW : i == parameters - 1 ? LASTS : THIRDS;
  }

  private static void ask(int town, Method method, Object[] args) throws Exception {
    WedApart real = new WedApart();
    Model model = new Model();
    for (String told : TOWNS[town]) {
      tell(real, told);
      tell(model, told);
    }
    String call = "town " + town + ": " + method.getName() + Arrays.toString(args);
    Method same = WedApart.class.getMethod(method.getName(), method.getParameterTypes());
    Due.is(call, number(same.invoke(real, args)), number(method.invoke(model, args)));
    Due.is(call + " digest", real.digest(), model.digest());
    for (int what = 0; what < 3; what++) Due.is(call + " status", real.status(what), model.status(what));
    if (args.length == 1) {
      for (int image = 0; image < 2; image++) {
        Due.is(call + " from", real.from(image), model.from(image));
        Due.is(call + " image", real.digest(), model.digest());
      }
    }
  }

  private static void tell(Object to, String told) throws Exception {
    String[] words = told.split(" ");
    Class<?>[] types = new Class<?>[words.length - 1];
    Object[] args = new Object[words.length - 1];
    for (int i = 0; i < args.length; i++) {
      boolean isNumber = Character.isDigit(words[i + 1].charAt(0));
      types[i] = isNumber ? int.class : boolean.class;
      if (isNumber) args[i] = Integer.valueOf(words[i + 1]);
      else args[i] = Boolean.valueOf(words[i + 1]);
    }
    to.getClass().getMethod(words[0], types).invoke(to, args);
  }

  private static long number(Object answer) {
    return ((Number) answer).longValue();
  }
}
