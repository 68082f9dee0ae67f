import java.lang.reflect.Method;
import java.lang.reflect.Modifier;
import java.util.ArrayList;
import java.util.Arrays;
import java.util.Comparator;
import java.util.List;
import java.util.Random;

/** Runs of calls by lot, the same in each run of this test, held against the Model. */
public final class ModelTest {
  private static final int RUNS = 2000;
  private static final int CALLS = 160;
  private static final int[] ODD = {-2147483648, -11, -2, -1, 6, 7, 12, 201, 1024, 2147483647};
  private static final String[] PIECES = {
    "person", "person ", "person 0 a;", "person 2 bcd;", "person3x;", "person 5 aj ; ",
    "person 4 abcdefghij;", "person 1 ij;", "person 6 a;", "weighty", "weighty b;", "weighty ",
    "licence", "licence 1 3;", "licence 0 20;", "licence 4 2;", "licence 3 21;", "talk",
    "talk 0 1;", "talk1 2;", "talk 0 0;", " talk 2 0 ;", " ", "   ", ";", "1", "12", "123 ", "07",
    "a", "x", "ba", "k", "aa", "Person", "\n", "~", "talks 0 1;", "weightya;", "0 1;", "a;"};

  private static Random lot;

  public static void main(String[] args) throws Exception {
    Method[] methods = Model.class.getDeclaredMethods();
    List<Method> face = new ArrayList<>();
    for (Method method : methods) if (Modifier.isPublic(method.getModifiers())) face.add(method);
    face.sort(Comparator.comparing(Method::getName));
    int[] asked = new int[face.size()];
    for (int run = 0; run < RUNS; run++) {
      lot = new Random(run);
      WedApart real = new WedApart();
      Model model = new Model();
      StringBuilder told = new StringBuilder();
      begin(run, real, model, told);
      for (int call = 0; call < CALLS; call++) {
        int which = lot.nextInt(face.size() + 4);
        if (which >= face.size()) {
          typePiece(real, model, told);
          continue;
        }
        if (isRare(face.get(which).getName()) && lot.nextInt(4) != 0) continue;
        asked[which]++;
        if (!asks(face.get(which), real, model, told)) {
          System.out.println("run " + run + ": " + told);
          break;
        }
      }
    }
    for (int i = 0; i < asked.length; i++) {
      Due.is("asked " + face.get(i).getName(), asked[i] > 50 ? 1 : 0, 1);
    }
    Due.end("ModelTest");
  }

  /** These change the town so much that little else would be seen, were they asked as often. */
  private static boolean isRare(String name) {
    return name.equals("from") || name.equals("read") || name.equals("burn")
        || name.equals("clean") || name.equals("clear") || name.equals("thinks");
  }

  /** Most runs begin with people and pairs that suit, so that what is asked has weight. */
  private static void begin(int run, WedApart real, Model model, StringBuilder told)
      throws Exception {
    if (run % 8 == 0) return;
    int people = lot.nextInt(3) == 0 ? 1 + lot.nextInt(6) : 6;
    int matters = lot.nextBoolean() ? 1023 : 31;
    for (int p = 0; p < people; p++) {
      both("person", real, model, told, lot.nextInt(6), lot.nextInt(1024) & matters);
    }
    if (lot.nextBoolean()) both("weighty", real, model, told, lot.nextInt(1024) & matters);
    if (lot.nextBoolean()) {
      int least = lot.nextInt(6);
      both("licence", real, model, told, least, least + lot.nextInt(8));
    }
    if (people < 2) return;
    int pairs = lot.nextInt(9);
    for (int i = 0; i < pairs; i++) {
      both("talk", real, model, told, lot.nextInt(people), lot.nextInt(people));
    }
  }

  private static void both(String name, WedApart real, Model model, StringBuilder told,
      Integer... args) throws Exception {
    Class<?>[] types = new Class<?>[args.length];
    Arrays.fill(types, int.class);
    answersAlike(Model.class.getMethod(name, types), real, model, told, (Object[]) args);
  }

  private static void typePiece(WedApart real, Model model, StringBuilder told) throws Exception {
    if (lot.nextInt(3) == 0) both("clear", real, model, told);
    int pieces = 1 + lot.nextInt(4);
    for (int i = 0; i < pieces; i++) {
      String piece = PIECES[lot.nextInt(PIECES.length)];
      if (piece.endsWith(";") || lot.nextInt(3) == 0) {
        for (char c : piece.toCharArray()) both("type", real, model, told, (int) c);
      }
    }
    if (lot.nextInt(6) == 0) both("read", real, model, told);
    both("digest", real, model, told);
  }

  private static boolean asks(Method method, WedApart real, Model model, StringBuilder told)
      throws Exception {
    Class<?>[] types = method.getParameterTypes();
    Object[] args = new Object[types.length];
    for (int i = 0; i < types.length; i++) {
      if (types[i] == boolean.class) args[i] = lot.nextBoolean();
      else args[i] = number(method.getName(), i, model.count(0));
    }
    return answersAlike(method, real, model, told, args)
        && answersAlike(Model.class.getMethod("digest"), real, model, told);
  }

  private static boolean answersAlike(Method method, WedApart real, Model model,
      StringBuilder told, Object... args) throws Exception {
    Method same = WedApart.class.getMethod(method.getName(), method.getParameterTypes());
    String call = method.getName() + Arrays.toString(args);
    long want = ((Number) method.invoke(model, args)).longValue();
    long got = ((Number) same.invoke(real, args)).longValue();
    told.append(call).append('=').append(want).append(' ');
    Due.is(call, got, want);
    return got == want;
  }

  private static int number(String name, int i, int people) {
    if (lot.nextInt(16) == 0) return ODD[lot.nextInt(ODD.length)];
    switch (name + i) {
      case "person0": case "become1": return lot.nextInt(6);
      case "person1": case "thinks1": case "seen1":
        return lot.nextInt(lot.nextBoolean() ? 16 : 1024);
      case "weighty0": return lot.nextInt(1024) & lot.nextInt(1024);
      case "licence0": return lot.nextInt(8);
      case "licence1": return lot.nextInt(22);
      case "type0": return lot.nextInt(128);
      case "behind1": return lot.nextInt(201);
      case "wed0": return lot.nextInt(lot.nextBoolean() ? 5 : 42);
      case "wed1": case "seats0": return lot.nextInt(people + 1) - 1;
      case "dinners2": return 1 + lot.nextInt(lot.nextInt(20) == 0 ? 5 : 3);
      case "dinners3": return lot.nextInt(5) - 1;
      case "couple0": return lot.nextInt(21);
      case "child3": return lot.nextInt(lot.nextBoolean() ? 6 : 22);
      case "born2": return lot.nextInt(1000000);
      case "count0": return lot.nextInt(7);
      case "status0": return lot.nextInt(4);
      case "three0": case "again0": case "swayed0": case "law0": case "part0": case "image0":
      case "from0":
        return lot.nextInt(2);
      default: return lot.nextInt(people + 1);
    }
  }
}
