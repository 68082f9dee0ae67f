import java.math.BigInteger;
import java.util.ArrayDeque;
import java.util.ArrayList;
import java.util.Arrays;
import java.util.Deque;
import java.util.List;
import java.util.Map;
import java.util.TreeMap;
import java.util.regex.Matcher;
import java.util.regex.Pattern;

/**
 * The document once more, written with the Java library, slowly and by trying all there is:
 * ModelTest holds WedApart against it.
 */
public final class Model {
  // ---- people, of kinds over one another

  private static class Plain {
    boolean[] then(int me, boolean[] own, int it, boolean[] other, int matter, boolean heavy) {
      boolean[] then = own.clone();
      if (it < me) then[matter] = other[matter];
      return then;
    }
  }

  private static class Proud extends Plain {
    @Override
    boolean[] then(int me, boolean[] own, int it, boolean[] other, int matter, boolean heavy) {
      return heavy ? own.clone() : super.then(me, own, it, other, matter, heavy);
    }
  }

  private static class Meek extends Plain {
    @Override
    boolean[] then(int me, boolean[] own, int it, boolean[] other, int matter, boolean heavy) {
      boolean[] then = own.clone();
      then[matter] = other[matter];
      return then;
    }
  }

  private static final class Contrary extends Proud {
    @Override
    boolean[] then(int me, boolean[] own, int it, boolean[] other, int matter, boolean heavy) {
      boolean[] then = super.then(me, own, it, other, matter, heavy);
      then[(matter + 1) % 10] = !own[(matter + 1) % 10];
      return then;
    }
  }

  private static final class Stubborn extends Proud {
    @Override
    boolean[] then(int me, boolean[] own, int it, boolean[] other, int matter, boolean heavy) {
      return own.clone();
    }
  }

  private static final class Fickle extends Meek {
    @Override
    boolean[] then(int me, boolean[] own, int it, boolean[] other, int matter, boolean heavy) {
      boolean[] then = super.then(me, own, it, other, matter, heavy);
      then[(matter + 1) % 10] = other[(matter + 1) % 10];
      return then;
    }
  }

  private static final List<Plain> KINDS = List.of(
      new Plain(), new Proud(), new Meek(), new Contrary(), new Stubborn(), new Fickle());

  private record Ahead(List<boolean[]> minds, int evening) {
  }

  private static final class World {
    List<Integer> kinds = new ArrayList<>();
    List<boolean[]> minds = new ArrayList<>();
    List<boolean[]> seen = new ArrayList<>();
    boolean[] weighty = new boolean[10];
    int least = 2;
    int most = 4;
    List<int[]> calendar = new ArrayList<>();
    int evening = 0;
    Deque<Ahead> undo = new ArrayDeque<>();
    List<int[]> couples = new ArrayList<>();

    World copy() {
      World w = new World();
      w.kinds.addAll(kinds);
      w.minds.addAll(minds);
      w.seen.addAll(seen);
      w.weighty = weighty;
      w.least = least;
      w.most = most;
      w.calendar.addAll(calendar);
      w.evening = evening;
      w.undo.addAll(undo);
      w.couples.addAll(couples);
      return w;
    }

    int size() {
      return kinds.size();
    }

    boolean is(int person) {
      return 0 <= person && person < size();
    }

    boolean are(int a, int b) {
      return is(a) && is(b) && a != b;
    }

    int person(int kind, int opinions) {
      if (kind < 0 || kind > 5 || opinions < 0 || opinions > 1023) return -2;
      if (size() == 6) return -4;
      kinds.add(kind);
      minds.add(set(opinions));
      seen.add(set(opinions));
      undo.clear();
      return size() - 1;
    }

    int licence(int from, int to) {
      if (from < 0 || to > 20 || from > to) return -2;
      int was = 100 * least + most;
      least = from;
      most = to;
      return was;
    }

    int pair(int a, int b) {
      if (!are(a, b)) return -2;
      if (calendar.size() == 8) return -4;
      calendar.add(new int[] {a, b});
      return calendar.size() - 1;
    }

    /** A TALK; how many think otherwise behind it. */
    int converse(int a, int b) {
      boolean[] x = minds.get(a);
      boolean[] y = minds.get(b);
      int matter = -1;
      for (int m = 9; m >= 0; m--) if (x[m] != y[m] && weighty[m]) matter = m;
      int light = -1;
      for (int m = 9; m >= 0; m--) if (x[m] != y[m] && !weighty[m]) light = m;
      if (light >= 0) matter = light;
      if (matter < 0) return 0;
      minds.set(a, KINDS.get(kinds.get(a)).then(a, x, b, y, matter, weighty[matter]));
      minds.set(b, KINDS.get(kinds.get(b)).then(b, y, a, x, matter, weighty[matter]));
      return (Arrays.equals(x, minds.get(a)) ? 0 : 1) + (Arrays.equals(y, minds.get(b)) ? 0 : 1);
    }

    int passEvening() {
      int changed = 0;
      if (!calendar.isEmpty()) {
        int[] pair = calendar.get(evening % calendar.size());
        changed = converse(pair[0], pair[1]);
      }
      evening++;
      return changed;
    }

    World later(int evenings) {
      World w = copy();
      for (int i = 0; i < evenings; i++) w.passEvening();
      return w;
    }

    int gap(boolean[] x, boolean[] y) {
      int gap = 0;
      for (int m = 0; m < 10; m++) if (x[m] != y[m]) gap += weighty[m] ? 2 : 1;
      return gap;
    }

    int gap(int a, int b) {
      return gap(minds.get(a), minds.get(b));
    }

    boolean legal(int a, int b) {
      return gap(a, b) >= least && gap(a, b) <= most;
    }

    int legalPairs() {
      int many = 0;
      for (int a = 0; a < size(); a++) for (int b = 0; b < a; b++) if (legal(a, b)) many++;
      return many;
    }

    int oneMind() {
      World w = copy();
      for (int t = 0; t <= 200; t++) {
        boolean one = true;
        for (boolean[] mind : w.minds) one &= Arrays.equals(mind, w.minds.get(0));
        if (one) return t;
        w.passEvening();
      }
      return -1;
    }

    void remember() {
      undo.addLast(new Ahead(new ArrayList<>(minds), evening));
      if (undo.size() > 12) undo.removeFirst();
    }
  }

  private static boolean[] set(int bits) {
    boolean[] set = new boolean[10];
    for (int m = 0; m < 10; m++) set[m] = (bits >> m & 1) == 1;
    return set;
  }

  private static int bits(boolean[] set) {
    int bits = 0;
    for (int m = 0; m < 10; m++) if (set[m]) bits += 1 << m;
    return bits;
  }

  private World now = new World();
  private final World[] images = new World[2];
  private final StringBuilder text = new StringBuilder();
  private BigInteger above = BigInteger.ZERO;
  private BigInteger below = BigInteger.ONE;
  private final Map<Integer, Integer> status = new TreeMap<>(Map.of(-2, 0, -3, 0, -4, 0));

  private int refused(int answer, int why) {
    status.merge(why, 1, Integer::sum);
    return answer;
  }

  private int bad() {
    return refused(-2, -2);
  }

  private int badTen() {
    return refused(-10, -2);
  }

  private int orRefused(int answer) {
    return answer <= -2 ? refused(answer, answer) : answer;
  }

  // ---- a town

  public int person(int kind, int opinions) {
    return orRefused(now.person(kind, opinions));
  }

  public int thinks(int person, int opinions) {
    if (!now.is(person) || opinions < 0 || opinions > 1023) return bad();
    now.undo.clear();
    return bits(now.minds.set(person, set(opinions)));
  }

  public int become(int person, int kind) {
    if (!now.is(person) || kind < 0 || kind > 5) return bad();
    return now.kinds.set(person, kind);
  }

  public int weighty(int matters) {
    if (matters < 0 || matters > 1023) return bad();
    int were = bits(now.weighty);
    now.weighty = set(matters);
    return were;
  }

  public int licence(int least, int most) {
    return orRefused(now.licence(least, most));
  }

  public int talk(int a, int b) {
    return orRefused(now.pair(a, b));
  }

  public int clean() {
    int had = now.calendar.size();
    now.calendar.clear();
    return had;
  }

  public int type(int c) {
    if (c < 0 || c > 127) return bad();
    if (text.length() == 150) return refused(-4, -4);
    return text.append((char) c).length();
  }

  public int clear() {
    int had = text.length();
    text.setLength(0);
    return had;
  }

  private record Token(String kind, String sign, int place) {
  }

  private List<Token> tokens() {
    List<Token> tokens = new ArrayList<>();
    Matcher m = Pattern.compile("(?s) +|([a-z]+)|([0-9]+)|(;)|(.)").matcher(text);
    while (m.find()) {
      if (m.group(1) != null) {
        String w = m.group(1);
        String kind = w.matches("person|weighty|licence|talk") ? w
            : w.matches("x|a?b?c?d?e?f?g?h?i?j?") ? "matters" : "none";
        tokens.add(new Token(kind, w, m.start()));
      } else if (m.group(2) != null) {
        tokens.add(new Token(m.group(2).length() < 3 ? "number" : "none", m.group(2), m.start()));
      } else if (m.group(3) != null) {
        tokens.add(new Token(";", ";", m.start()));
      } else if (m.group(4) != null) {
        tokens.add(new Token("none", m.group(4), m.start()));
      }
    }
    return tokens;
  }

  private static final Map<String, List<String>> SHAPES = Map.of(
      "person", List.of("number", "matters", ";"), "weighty", List.of("matters", ";"),
      "licence", List.of("number", "number", ";"), "talk", List.of("number", "number", ";"));

  public int read() {
    List<Token> tokens = tokens();
    List<List<Token>> items = new ArrayList<>();
    for (int i = 0; i < tokens.size();) {
      List<Token> item = new ArrayList<>();
      List<String> shape = SHAPES.get(tokens.get(i).kind());
      if (shape == null) return -10 - tokens.get(i).place();
      item.add(tokens.get(i++));
      for (String part : shape) {
        if (i == tokens.size()) return -10 - text.length();
        if (!tokens.get(i).kind().equals(part)) return -10 - tokens.get(i).place();
        item.add(tokens.get(i++));
      }
      items.add(item);
    }
    World fresh = new World();
    for (int i = 0; i < items.size(); i++) {
      if (told(fresh, items.get(i)) < 0) return -1000 - i;
    }
    now = fresh;
    return items.size();
  }

  private static int told(World w, List<Token> item) {
    switch (item.get(0).kind()) {
      case "person": return w.person(number(item.get(1)), matters(item.get(2)));
      case "licence": return w.licence(number(item.get(1)), number(item.get(2)));
      case "talk": return w.pair(number(item.get(1)), number(item.get(2)));
      default:
        w.weighty = set(matters(item.get(1)));
        return 0;
    }
  }

  private static int number(Token token) {
    return Integer.parseInt(token.sign());
  }

  private static int matters(Token token) {
    int bits = 0;
    for (char c : token.sign().toCharArray()) if (c != 'x') bits |= 1 << (c - 'a');
    return bits;
  }

  // ---- who differs

  public int opinions(int person) {
    return now.is(person) ? bits(now.minds.get(person)) : bad();
  }

  public int differ(int a, int b) {
    return now.are(a, b) ? bits(now.minds.get(a)) ^ bits(now.minds.get(b)) : bad();
  }

  public int apart(int a, int b) {
    return now.are(a, b) ? now.gap(a, b) : bad();
  }

  public int lawful(int person) {
    if (!now.is(person)) return bad();
    int bits = 0;
    for (int o = 0; o < now.size(); o++) if (o != person && now.legal(o, person)) bits += 1 << o;
    return bits;
  }

  public int three(int what) {
    if (what < 0 || what > 1) return bad();
    List<Integer> sets = new ArrayList<>();
    for (int a = 0; a < now.size(); a++) {
      for (int b = a + 1; b < now.size(); b++) {
        for (int c = b + 1; c < now.size(); c++) {
          if (now.legal(a, b) && now.legal(a, c) && now.legal(b, c)) {
            sets.add((1 << a) + (1 << b) + (1 << c));
          }
        }
      }
    }
    sets.sort(null);
    return what == 0 ? sets.size() : sets.isEmpty() ? -1 : sets.get(0);
  }

  // ---- evenings

  public int evening() {
    now.remember();
    return now.passEvening();
  }

  public int meet(int a, int b) {
    if (!now.are(a, b)) return bad();
    now.remember();
    return now.converse(a, b);
  }

  public int undo() {
    if (now.undo.isEmpty()) return refused(-3, -3);
    Ahead ahead = now.undo.removeLast();
    now.minds = new ArrayList<>(ahead.minds());
    now.evening = ahead.evening();
    return 1;
  }

  public int behind(int person, int m) {
    if (!now.is(person) || m < 0 || m > 200) return bad();
    return bits(now.later(m).minds.get(person));
  }

  public int lasts(int a, int b) {
    if (!now.are(a, b)) return bad();
    World w = now.copy();
    for (int t = 0; t <= 200; t++) {
      if (!w.legal(a, b)) return t;
      w.passEvening();
    }
    return -1;
  }

  public int again(int what) {
    if (what < 0 || what > 1) return badTen();
    List<String> seenSoFar = new ArrayList<>();
    World w = now.copy();
    int length = Math.max(1, w.calendar.size());
    for (int t = 0; t <= 200; t++) {
      StringBuilder all = new StringBuilder();
      all.append(t % length);
      for (boolean[] mind : w.minds) all.append(Arrays.toString(mind));
      int s = seenSoFar.indexOf(all.toString());
      if (s >= 0) return what == 0 ? t : s;
      seenSoFar.add(all.toString());
      w.passEvening();
    }
    return -1;
  }

  public int mind() {
    return now.oneMind();
  }

  public int stops() {
    if (now.oneMind() < 0) return -1;
    for (int p = 0; p < now.size(); p++) {
      World w = now.copy();
      w.kinds.set(p, 4);
      if (w.oneMind() < 0) return p;
    }
    return -1;
  }

  // ---- marriages

  public int wed(int m, int person) {
    if (m < 0 || m > 40 || person < -1 || person >= now.size()) return badTen();
    boolean[][] lasting = new boolean[6][6];
    for (int a = 0; a < now.size(); a++) {
      for (int b = a + 1; b < now.size(); b++) {
        lasting[a][b] = true;
        for (int t = 0; t <= m; t++) lasting[a][b] &= now.later(t).legal(a, b);
      }
    }
    int[] row = new int[now.size()];
    Arrays.fill(row, -2);
    List<int[]> rows = new ArrayList<>();
    rowsOfMarriages(row, lasting, rows);
    int[] best = null;
    for (int[] one : rows) if (best == null || married(one) > married(best)) best = one;
    return person < 0 ? married(best) / 2 : best[person];
  }

  private static int married(int[] row) {
    return (int) Arrays.stream(row).filter(p -> p >= 0).count();
  }

  private static void rowsOfMarriages(int[] row, boolean[][] lasting, List<int[]> rows) {
    int p = 0;
    while (p < row.length && row[p] != -2) p++;
    if (p == row.length) {
      rows.add(row.clone());
      return;
    }
    row[p] = -1;
    rowsOfMarriages(row, lasting, rows);
    for (int q = p + 1; q < row.length; q++) {
      if (row[q] == -2 && lasting[p][q]) {
        row[p] = q;
        row[q] = p;
        rowsOfMarriages(row, lasting, rows);
        row[q] = -2;
      }
    }
    row[p] = -2;
  }

  public int dinners(int a, int b, int m, int i) {
    if (!now.are(a, b) || m < 1 || m > 4 || i < -1) return badTen();
    List<int[]> rows = new ArrayList<>();
    rowsOfDinners(now, a, b, new int[m], 0, rows);
    if (i < 0) return rows.size();
    if (rows.isEmpty()) return -1;
    return i < m ? rows.get(0)[i] : -5;
  }

  private static void rowsOfDinners(World w, int a, int b, int[] row, int e, List<int[]> rows) {
    if (e == row.length) {
      rows.add(row.clone());
      return;
    }
    for (int which = -1; which < 2; which++) {
      for (int third = 0; third < (which < 0 ? 1 : w.size()); third++) {
        if (which >= 0 && (third == a || third == b)) continue;
        World next = w.copy();
        next.converse(a, b);
        if (which >= 0) next.converse(which == 0 ? a : b, third);
        row[e] = which < 0 ? 0 : 1 + 6 * which + third;
        if (next.legal(a, b)) rowsOfDinners(next, a, b, row, e + 1, rows);
      }
    }
  }

  public int feigned(int a, int b) {
    if (!now.are(a, b)) return bad();
    for (int many = 0; many <= 10; many++) {
      for (int lies = 0; lies < 1024; lies++) {
        if (Integer.bitCount(lies) != many) continue;
        int gap = now.gap(set(bits(now.minds.get(a)) ^ lies), now.minds.get(b));
        if (gap >= now.least && gap <= now.most) return lies;
      }
    }
    return -1;
  }

  public int seen(int person, int opinions) {
    if (!now.is(person) || opinions < 0 || opinions > 1023) return bad();
    return bits(now.seen.set(person, set(opinions)));
  }

  public int swayed(int what) {
    if (what < 0 || what > 1) return badTen();
    List<Integer> pairs = new ArrayList<>();
    for (int a = 0; a < now.size(); a++) {
      for (int b = a + 1; b < now.size(); b++) {
        World w = now.copy();
        w.converse(a, b);
        boolean same = true;
        for (int p = 0; p < w.size(); p++) same &= Arrays.equals(w.minds.get(p), w.seen.get(p));
        if (same) pairs.add(10 * a + b);
      }
    }
    return what == 0 ? pairs.size() : pairs.isEmpty() ? -1 : pairs.get(0);
  }

  public int seats(int place) {
    if (place < -1) return badTen();
    if (place >= now.size()) return -5;
    List<List<Integer>> orders = new ArrayList<>();
    if (now.size() > 0) orders(new ArrayList<>(List.of(0)), orders);
    int best = now.size() == 0 ? 0 : -1;
    List<Integer> order = null;
    for (List<Integer> one : orders) {
      World w = now.copy();
      for (int i = 0; i < one.size(); i++) {
        int next = one.get((i + 1) % one.size());
        if (next != one.get(i)) w.converse(one.get(i), next);
      }
      if (w.legalPairs() > best) {
        best = w.legalPairs();
        order = one;
      }
    }
    return place < 0 ? best : order.get(place);
  }

  private void orders(List<Integer> order, List<List<Integer>> orders) {
    if (order.size() == now.size()) orders.add(new ArrayList<>(order));
    for (int p = 1; p < now.size(); p++) {
      if (order.contains(p)) continue;
      order.add(p);
      orders(order, orders);
      order.remove(order.size() - 1);
    }
  }

  public int couple(int apart, boolean let) {
    if (apart < 0 || apart > 20) return bad();
    if (now.couples.size() == 10) return refused(-4, -4);
    now.couples.add(new int[] {apart, let ? 1 : 0});
    return now.couples.size();
  }

  public int burn() {
    int had = now.couples.size();
    now.couples.clear();
    return had;
  }

  public int law(int what) {
    if (what < 0 || what > 1) return badTen();
    int many = 0;
    int first = -1;
    for (int width = 0; width <= 20; width++) {
      for (int from = 0; from + width <= 20; from++) {
        boolean fits = true;
        for (int[] c : now.couples) {
          fits &= (c[0] >= from && c[0] <= from + width) == (c[1] == 1);
        }
        if (!fits) continue;
        if (many++ == 0) first = 100 * from + from + width;
      }
    }
    return what == 0 ? many : first;
  }

  // ---- children

  public int child(int a, int b, int third, int k) {
    if (!now.are(a, b) || !now.is(third) || k < 0 || k > 20) return bad();
    BigInteger far = BigInteger.ZERO;
    BigInteger all = BigInteger.ONE.shiftLeft(10);
    for (int lots = 0; lots < 1024; lots++) {
      boolean[] child = new boolean[10];
      for (int m = 0; m < 10; m++) child[m] = now.minds.get((lots >> m & 1) == 0 ? a : b)[m];
      if (now.gap(child, now.minds.get(third)) >= k) far = far.add(BigInteger.ONE);
    }
    BigInteger both = far.gcd(all);
    above = far.divide(both);
    below = all.divide(both);
    return 1;
  }

  public int born(int a, int b, int seed) {
    if (!now.are(a, b) || seed < 0 || seed > 999999) return bad();
    BigInteger x = BigInteger.valueOf(seed);
    boolean[] child = now.minds.get(a).clone();
    for (int m = 0; m < 10; m++) {
      if (now.minds.get(a)[m] == now.minds.get(b)[m]) continue;
      x = x.multiply(BigInteger.valueOf(1103515245)).add(BigInteger.valueOf(12345))
          .mod(BigInteger.valueOf(2147483648L));
      if (x.divide(BigInteger.valueOf(65536)).testBit(0)) child[m] = now.minds.get(b)[m];
    }
    return bits(child);
  }

  // ---- what there is

  public long part(int what) {
    if (what < 0 || what > 1) return bad();
    return what == 0 ? above.longValue() : below.longValue();
  }

  public int image(int i) {
    if (i < 0 || i > 1) return bad();
    images[i] = now.copy();
    return 1;
  }

  public int from(int i) {
    if (i < 0 || i > 1) return bad();
    if (images[i] == null) return refused(-3, -3);
    now = images[i].copy();
    return 1;
  }

  public int status(int what) {
    if (what < 0 || what > 2) return refused(-1, -2);
    return status.get(-2 - what);
  }

  public int count(int what) {
    return what < 0 || what > 5 ? bad() : counts().get(what);
  }

  private List<Integer> counts() {
    return List.of(now.size(), now.calendar.size(), now.evening, now.undo.size(),
        now.couples.size(), text.length());
  }

  public long digest() {
    List<Long> row = new ArrayList<>();
    for (int v : counts()) row.add((long) v);
    row.addAll(List.of((long) bits(now.weighty), (long) now.least, (long) now.most));
    for (int p = 0; p < now.size(); p++) {
      row.add((long) now.kinds.get(p));
      row.add((long) bits(now.minds.get(p)));
      row.add((long) bits(now.seen.get(p)));
    }
    for (int[] pair : now.calendar) for (int v : pair) row.add((long) v);
    for (int[] couple : now.couples) for (int v : couple) row.add((long) v);
    row.addAll(List.of(above.longValue(), below.longValue()));
    long h = 839;
    for (long v : row) h = 31 * h + v;
    return h;
  }
}
