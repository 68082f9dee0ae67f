/**
 * Every refused call, promise by promise: too small, too large, nobody of that number, alike, full:
 * its answer, one more in STATUS, and nothing else changed.
 */
public final class RefusedTest {
  private static final int MIN = Integer.MIN_VALUE;
  private static final int MAX = Integer.MAX_VALUE;
  private static final String HERE = "0";
  private static final String OTHER = "5";
  /** Numbers that are nobody's, where all six have come. */
  private static final int[] NOBODY = {-1, 6, -2, 7, MIN, MAX};

  public static void main(String[] args) {
    town();
    whoDiffers();
    evenings();
    marriages();
    children();
    whatThereIs();
    fulls();
    nobodyHasCome();
    Due.end("RefusedTest");
  }

  /** A town in which all that a call could change is there: 6 PEOPLE, 3 pairs, 2 to undo .. */
  private static WedApart told() {
    WedApart x = new WedApart();
    Runs.tell("town", x, "person(0, 0) person(1, 5) person(2, 9) person(3, 700) person(4, 1023) "
        + "person(5, 33) weighty(6) licence(1, 7) talk(0, 1) talk(2, 3) talk(4, 5) seen(2, 77) "
        + "couple(3, true) couple(9, false) child(0, 4, 1, 3) image(0) evening() meet(3, 4) "
        + "'talk 0 1' ");
    return x;
  }

  private static void isRefused(int promise, WedApart x, String name, String args, int due, int why) {
    String call = promise + " " + name + "(" + args + ")";
    long digest = x.digest();
    int[] were = {x.status(0), x.status(1), x.status(2)};
    Due.is(call, Runs.call(x, name, args), due);
    Due.is(call + " changes nothing", x.digest(), digest);
    for (int what = 0; what < 3; what++) {
      Due.is(call + " in status(" + what + ")", x.status(what), were[what] + (what == why ? 1 : 0));
    }
  }

  private static void isBad(int promise, String name, int due, Object... args) {
    StringBuilder told = new StringBuilder();
    for (Object arg : args) told.append(told.length() == 0 ? "" : ", ").append(arg);
    WedApart x = told();
    isRefused(promise, x, name, told.toString(), due, 0);
    Due.is(name + ": undo behind it", x.undo() + x.undo(), 2);
    Due.is(name + ": no more to undo behind it", x.undo(), -3);
    Due.is(name + ": the image behind it", x.from(0), 1);
    Due.is(name + ": no other image behind it", x.from(1), -3);
    Due.is(name + ": nobody's kind changed", kinds(x), 12345);
  }

  private static int kinds(WedApart x) {
    int kinds = 0;
    for (int person = 0; person < x.count(0); person++) kinds = 10 * kinds + x.become(person, 0);
    return kinds;
  }

  private static void town() {
    for (int kind : new int[] {-1, 6, MIN, MAX}) {
      isBad(2, "person", -2, kind, 0);
      isBad(4, "become", -2, 0, kind);
    }
    for (int opinions : new int[] {-1, 1024, MIN, MAX}) {
      isBad(2, "person", -2, 0, opinions);
      isBad(3, "thinks", -2, 0, opinions);
      isBad(5, "weighty", -2, opinions);
      isBad(28, "seen", -2, 0, opinions);
    }
    for (int nobody : NOBODY) {
      isBad(3, "thinks", -2, nobody, 5);
      isBad(4, "become", -2, nobody, 0);
      isBad(7, "talk", -2, nobody, HERE);
      isBad(7, "talk", -2, HERE, nobody);
      isBad(7, "talk", -2, nobody, nobody);
      isBad(28, "seen", -2, nobody, 5);
    }
    for (int person = 0; person <= 5; person++) isBad(7, "talk", -2, person, person);
    int[][] licences = {{-1, 4}, {4, 3}, {1, 0}, {20, 19}, {0, 21}, {21, 21}, {-1, -1}, {20, 0},
        {MIN, MAX}, {MAX, MIN}, {0, MAX}, {MIN, 0}, {0, -1}, {21, 20}};
    for (int[] licence : licences) isBad(6, "licence", -2, licence[0], licence[1]);
    for (int c : new int[] {-1, 128, 255, 256, MIN, MAX}) isBad(9, "type", -2, c);
  }

  private static void whoDiffers() {
    for (int nobody : NOBODY) {
      isBad(12, "opinions", -2, nobody);
      isBad(15, "lawful", -2, nobody);
    }
    badPairs(13, "differ", -2);
    badPairs(14, "apart", -2);
    badWhats(16, "three", -2, 2);
  }

  private static void badPairs(int promise, String name, int due, Object... more) {
    for (int nobody : NOBODY) {
      isBad(promise, name, due, with(nobody, HERE, more));
      isBad(promise, name, due, with(OTHER, nobody, more));
      isBad(promise, name, due, with(nobody, nobody, more));
    }
    for (int person = 0; person <= 5; person++) isBad(promise, name, due, with(person, person, more));
  }

  private static Object[] with(Object a, Object b, Object... more) {
    Object[] all = new Object[2 + more.length];
    all[0] = a;
    all[1] = b;
    System.arraycopy(more, 0, all, 2, more.length);
    return all;
  }

  /** A what (or an image) is 0 .. many - 1. */
  private static void badWhats(int promise, String name, int due, int many) {
    for (int what : new int[] {-1, many, MIN, MAX}) isBad(promise, name, due, what);
  }

  private static void evenings() {
    badPairs(18, "meet", -2);
    badPairs(21, "lasts", -2);
    for (int nobody : NOBODY) isBad(20, "behind", -2, nobody, 1);
    for (int m : new int[] {-1, 201, MIN, MAX}) isBad(20, "behind", -2, HERE, m);
    badWhats(22, "again", -10, 2);
    WedApart x = new WedApart();
    Runs.tell("19", x, "person(2, 0) person(4, 7) talk(0, 1) weighty(1) ");
    isRefused(19, x, "undo", "", -3, 1);
    Runs.tell("19", x, "evening() undo()=1 ");
    isRefused(19, x, "undo", "", -3, 1);
  }

  private static void marriages() {
    for (int m : new int[] {-1, 41, MIN, MAX}) {
      isBad(25, "wed", -10, m, -1);
      isBad(25, "wed", -10, m, 0);
    }
    for (int nobody : new int[] {-2, 6, MIN, MAX}) isBad(25, "wed", -10, 0, nobody);
    badPairs(26, "dinners", -10, 1, 0);
    badPairs(26, "dinners", -10, 4, -1);
    for (int m : new int[] {-1, 0, 5, MIN, MAX}) isBad(26, "dinners", -10, HERE, OTHER, m, -1);
    for (int i : new int[] {-2, MIN}) isBad(26, "dinners", -10, HERE, OTHER, 1, i);
    badPairs(27, "feigned", -2);
    badWhats(29, "swayed", -10, 2);
    for (int place : new int[] {-2, -3, MIN}) isBad(30, "seats", -10, place);
    for (int apart : new int[] {-1, 21, MIN, MAX}) {
      isBad(31, "couple", -2, apart, true);
      isBad(31, "couple", -2, apart, false);
    }
    badWhats(33, "law", -10, 2);
  }

  private static void children() {
    badPairs(34, "child", -2, 1, 0);
    for (int nobody : NOBODY) isBad(34, "child", -2, HERE, OTHER, nobody, 0);
    for (int k : new int[] {-1, 21, MIN, MAX}) isBad(34, "child", -2, HERE, OTHER, 1, k);
    badPairs(35, "born", -2, 0);
    for (int seed : new int[] {-1, 1000000, MIN, MAX}) isBad(35, "born", -2, HERE, OTHER, seed);
  }

  private static void whatThereIs() {
    badWhats(36, "part", -2, 2);
    badWhats(37, "image", -2, 2);
    badWhats(38, "from", -2, 2);
    isRefused(38, told(), "from", "1", -3, 1);
    badWhats(39, "status", -1, 3);
    badWhats(40, "count", -2, 6);
  }

  private static void fulls() {
    isRefused(2, told(), "person", "0, 0", -4, 2);
    isRefused(2, told(), "person", "5, 1023", -4, 2);
    WedApart x = told();
    Runs.tell("7", x, "5*talk(0, 1) ");
    isRefused(7, x, "talk", "1, 2", -4, 2);
    isRefused(7, x, "talk", "0, 0", -2, 0);
    isRefused(7, x, "talk", "0, 6", -2, 0);
    isRefused(2, x, "person", "6, 0", -2, 0);
    isRefused(2, x, "person", "0, 1024", -2, 0);
    Runs.tell("31", x, "8*couple(0, false) ");
    isRefused(31, x, "couple", "20, true", -4, 2);
    isRefused(31, x, "couple", "0, false", -4, 2);
    isRefused(31, x, "couple", "21, true", -2, 0);
    Runs.tell("9", x, "142*type(32) ");
    isRefused(9, x, "type", "0", -4, 2);
    isRefused(9, x, "type", "127", -4, 2);
    isRefused(9, x, "type", "128", -2, 0);
    isRefused(9, x, "type", "-1", -2, 0);
  }

  /** In a new object there is nobody whom a call could name. */
  private static void nobodyHasCome() {
    String[] calls = {"3 thinks 0, 0", "4 become 0, 0", "7 talk 0, 1", "12 opinions 0",
        "13 differ 0, 1", "14 apart 0, 1", "15 lawful 0", "18 meet 0, 1", "20 behind 0, 0",
        "21 lasts 0, 1", "27 feigned 0, 1", "28 seen 0, 0", "34 child 0, 1, 0, 0", "35 born 0, 1, 0"};
    for (String call : calls) {
      String[] words = call.split(" ", 3);
      isRefused(Integer.parseInt(words[0]), new WedApart(), words[1], words[2], -2, 0);
      // one alone is nobody's other one
      WedApart one = new WedApart();
      one.person(0, 0);
      if (words[2].startsWith("0, 1")) {
        isRefused(Integer.parseInt(words[0]), one, words[1], words[2], -2, 0);
      }
    }
    isRefused(25, new WedApart(), "wed", "0, 0", -10, 0);
    isRefused(26, new WedApart(), "dinners", "0, 1, 1, -1", -10, 0);
    isRefused(38, new WedApart(), "from", "0", -3, 1);
    isRefused(38, new WedApart(), "from", "1", -3, 1);
    isRefused(19, new WedApart(), "undo", "", -3, 1);
  }
}
