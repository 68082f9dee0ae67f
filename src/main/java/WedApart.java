public final class WedApart {
  public static final int NONE = -1, BAD = -2, NO = -3, FULL = -4;

  /** BAD where the document asks -10. */
  private static final int BAD_TEN = -10;
  private static final int NOT_SO_MANY = -5;
  private static final int MOST_PEOPLE = 6;
  private static final int MATTERS = 10;
  private static final int ALL_MATTERS = 1023;
  private static final int MOST_APART = 20;
  private static final int MOST_EVENINGS = 200;
  private static final int MOST_WED_EVENINGS = 40;
  private static final int MOST_DINNERS = 4;
  private static final int MOST_SEED = 999999;
  private static final int STATUSES = 3;
  private static final int IMAGES = 2;

  private final TownText text = new TownText();
  private final Course course = new Course();
  private final Fraction fraction = new Fraction();
  private final int[] refusals = new int[STATUSES];
  private final Town[] images = new Town[IMAGES];
  private Town town = new Town();
  private Town spare = new Town();

  public WedApart() {
  }

  // ---- a town

  public int person(int kind, int opinions) {
    return counted(town.welcome(kind, opinions));
  }

  public int thinks(int person, int opinions) {
    if (!town.has(person) || !isSet(opinions)) return refuse(BAD);
    return town.tell(person, opinions);
  }

  public int become(int person, int kind) {
    if (!town.has(person) || !Kinds.isKind(kind)) return refuse(BAD);
    return town.turn(person, kind);
  }

  public int weighty(int matters) {
    return counted(town.weigh(matters));
  }

  public int licence(int least, int most) {
    return counted(town.permit(least, most));
  }

  public int talk(int a, int b) {
    return counted(town.arrange(a, b));
  }

  public int clean() {
    int had = town.pairs;
    town.pairs = 0;
    return had;
  }

  public int type(int c) {
    return counted(text.append(c));
  }

  public int clear() {
    int had = text.length;
    text.length = 0;
    return had;
  }

  public int read() {
    spare.begin();
    int answer = text.tellTo(spare);
    if (answer < 0) return answer;
    Town former = town;
    town = spare;
    spare = former;
    return answer;
  }

  // ---- who differs

  public int opinions(int person) {
    if (!town.has(person)) return refuse(BAD);
    return Minds.of(town.minds, person);
  }

  public int differ(int a, int b) {
    if (!town.hasTwo(a, b)) return refuse(BAD);
    return Minds.of(town.minds, a) ^ Minds.of(town.minds, b);
  }

  public int apart(int a, int b) {
    if (!town.hasTwo(a, b)) return refuse(BAD);
    return town.distance(Minds.of(town.minds, a), Minds.of(town.minds, b));
  }

  public int lawful(int person) {
    if (!town.has(person)) return refuse(BAD);
    int bits = 0;
    for (int other = 0; other < town.people; other++) {
      if (other != person && town.mayWed(town.minds, person, other)) bits |= 1 << other;
    }
    return bits;
  }

  public int three(int what) {
    if (what != 0 && what != 1) return refuse(BAD);
    int many = 0;
    int first = NONE;
    for (int set = 0; set < 1 << town.people; set++) {
      if (Integer.bitCount(set) == 3 && town.mayAllWed(set)) {
        if (many == 0) first = set;
        many++;
      }
    }
    return what == 0 ? many : first;
  }

  // ---- evenings

  public int evening() {
    long ahead = town.minds;
    town.remember();
    town.minds = town.behindEvening(ahead, town.evening);
    town.evening++;
    return Minds.unlike(ahead, town.minds);
  }

  public int meet(int a, int b) {
    if (!town.hasTwo(a, b)) return refuse(BAD);
    long ahead = town.minds;
    town.remember();
    town.minds = town.behindTalk(ahead, a, b);
    return Minds.unlike(ahead, town.minds);
  }

  public int undo() {
    return town.takeBack() ? 1 : refuse(NO);
  }

  public int behind(int person, int m) {
    if (!town.has(person) || m < 0 || m > MOST_EVENINGS) return refuse(BAD);
    course.follow(town);
    return Minds.of(course.mindsBehind(m), person);
  }

  public int lasts(int a, int b) {
    if (!town.hasTwo(a, b)) return refuse(BAD);
    course.follow(town);
    return course.parted(town, a, b);
  }

  public int again(int what) {
    if (what != 0 && what != 1) return refuse(BAD_TEN);
    course.follow(town);
    int length = Math.max(1, town.pairs);
    for (int t = 1; t <= MOST_EVENINGS; t++) {
      int s = course.likeAhead(t, length);
      if (s != NONE) return what == 0 ? t : s;
    }
    return NONE;
  }

  public int mind() {
    course.follow(town);
    return course.oneMind(town.people);
  }

  public int stops() {
    if (mind() == NONE) return NONE;
    for (int person = 0; person < town.people; person++) {
      int kind = town.turn(person, Kinds.STUBBORN);
      course.follow(town);
      town.turn(person, kind);
      if (course.oneMind(town.people) == NONE) return person;
    }
    return NONE;
  }

  // ---- marriages

  public int wed(int m, int person) {
    boolean fits = person == NONE || town.has(person);
    if (!fits || m < 0 || m > MOST_WED_EVENINGS) return refuse(BAD_TEN);
    course.follow(town);
    long lasting = course.lastingPairs(town, m);
    if (person == NONE) return Marriages.most(lasting, 0, 0);
    return Marriages.spouse(lasting, person);
  }

  public int dinners(int a, int b, int m, int i) {
    if (!town.hasTwo(a, b) || m < 1 || m > MOST_DINNERS || i < NONE) return refuse(BAD_TEN);
    if (i == NONE) return Dinners.rows(town, town.minds, a, b, m);
    return Dinners.ofFirstRow(town, a, b, m, i);
  }

  public int feigned(int a, int b) {
    if (!town.hasTwo(a, b)) return refuse(BAD);
    int own = Minds.of(town.minds, a);
    int other = Minds.of(town.minds, b);
    int best = NONE;
    for (int lies = 0; lies <= ALL_MATTERS; lies++) {
      boolean fewer = best == NONE || Integer.bitCount(lies) < Integer.bitCount(best);
      if (fewer && town.isLicensed(town.distance(own ^ lies, other))) best = lies;
    }
    return best;
  }

  public int seen(int person, int opinions) {
    if (!town.has(person) || !isSet(opinions)) return refuse(BAD);
    int was = Minds.of(town.seen, person);
    town.seen = Minds.with(town.seen, person, opinions);
    return was;
  }

  public int swayed(int what) {
    if (what != 0 && what != 1) return refuse(BAD_TEN);
    int many = 0;
    int first = NONE;
    for (int a = 0; a < town.people; a++) {
      for (int b = a + 1; b < town.people; b++) {
        if (town.behindTalk(town.minds, a, b) == town.seen) {
          if (many == 0) first = 10 * a + b;
          many++;
        }
      }
    }
    return what == 0 ? many : first;
  }

  public int seats(int place) {
    if (place < NONE) return refuse(BAD_TEN);
    if (place >= town.people) return NOT_SO_MANY;
    if (place == NONE) return Table.most(town, town.minds, 1, 0, 1);
    return Table.sitter(town, place);
  }

  public int couple(int apart, boolean let) {
    return counted(town.note(apart, let));
  }

  public int burn() {
    int had = town.couples;
    town.couples = 0;
    return had;
  }

  public int law(int what) {
    if (what != 0 && what != 1) return refuse(BAD_TEN);
    int many = 0;
    int narrowest = NONE;
    int width = MOST_APART + 1;
    for (int least = 0; least <= MOST_APART; least++) {
      for (int most = least; most <= MOST_APART; most++) {
        if (town.couplesFit(least, most)) {
          many++;
          if (most - least < width) {
            width = most - least;
            narrowest = 100 * least + most;
          }
        }
      }
    }
    return what == 0 ? many : narrowest;
  }

  // ---- children

  public int child(int a, int b, int third, int k) {
    boolean fits = town.hasTwo(a, b) && town.has(third) && k >= 0 && k <= MOST_APART;
    if (!fits) return refuse(BAD);
    int own = Minds.of(town.minds, a);
    int open = own ^ Minds.of(town.minds, b);
    int far = 0;
    for (int lot = 0; lot <= ALL_MATTERS; lot++) {
      // a lot is what the child thinks of the MATTERS that are open, and of those alone
      if ((lot & ~open) == 0) {
        int child = (own & ~open) | lot;
        if (town.distance(child, Minds.of(town.minds, third)) >= k) far++;
      }
    }
    fraction.becomeHalves(far, Integer.bitCount(open));
    return 1;
  }

  public int born(int a, int b, int seed) {
    if (!town.hasTwo(a, b) || seed < 0 || seed > MOST_SEED) return refuse(BAD);
    int first = Minds.of(town.minds, a);
    int second = Minds.of(town.minds, b);
    int child = first;
    long x = seed;
    for (int bit = 1; bit <= ALL_MATTERS; bit <<= 1) {
      if (((first ^ second) & bit) != 0) {
        x = (x * 1103515245L + 12345L) % 2147483648L;
        if (x / 65536L % 2L == 1L) child = (child & ~bit) | (second & bit);
      }
    }
    return child;
  }

  // ---- what there is

  public long part(int what) {
    if (what != 0 && what != 1) return refuse(BAD);
    return what == 0 ? fraction.above : fraction.below;
  }

  public int image(int i) {
    if (i < 0 || i >= IMAGES) return refuse(BAD);
    Town kept = images[i];
    if (kept == null) {
      kept = new Town();
      images[i] = kept;
    }
    kept.becomeLike(town);
    return 1;
  }

  public int from(int i) {
    if (i < 0 || i >= IMAGES) return refuse(BAD);
    Town kept = images[i];
    if (kept == null) return refuse(NO);
    town.becomeLike(kept);
    return 1;
  }

  public int status(int what) {
    if (what < 0 || what >= STATUSES) {
      refuse(BAD);
      return -1;
    }
    return refusals[what];
  }

  public int count(int what) {
    if (what < 0 || what > 5) return refuse(BAD);
    return howMany(what);
  }

  public long digest() {
    long h = 839L;
    for (int what = 0; what <= 5; what++) h = 31L * h + howMany(what);
    h = town.addTo(h);
    h = 31L * h + fraction.above;
    return 31L * h + fraction.below;
  }

  private int howMany(int what) {
    switch (what) {
      case 0: return town.people;
      case 1: return town.pairs;
      case 2: return town.evening;
      case 3: return town.undoable;
      case 4: return town.couples;
      default: return text.length;
    }
  }

  private static boolean isSet(int matters) {
    return matters >= 0 && matters <= ALL_MATTERS;
  }

  /** Counts an answer of BAD, NO or FULL, for calls that answer no such number else. */
  private int counted(int answer) {
    return answer == BAD || answer == NO || answer == FULL ? refuse(answer) : answer;
  }

  private int refuse(int answer) {
    if (answer == NO) refusals[1]++;
    else if (answer == FULL) refusals[2]++;
    else refusals[0]++;
    return answer;
  }

  /** OPINIONS of all in one number, ten bits a person: so TALKS tried make no objects. */
  private static final class Minds {
    static int of(long minds, int person) {
      return (int) (minds >> (MATTERS * person)) & ALL_MATTERS;
    }

    static long with(long minds, int person, int opinions) {
      int place = MATTERS * person;
      return (minds & ~((long) ALL_MATTERS << place)) | ((long) opinions << place);
    }

    static int unlike(long minds, long others) {
      int many = 0;
      for (int person = 0; person < MOST_PEOPLE; person++) {
        if (of(minds, person) != of(others, person)) many++;
      }
      return many;
    }

    static boolean alike(long minds, int people) {
      for (int person = 1; person < people; person++) {
        if (of(minds, person) != of(minds, 0)) return false;
      }
      return true;
    }
  }

  /** What one thinks behind a TALK, by its KIND; the MATTER is its bit. */
  private static final class Kinds {
    static final int PLAIN = 0, PROUD = 1, MEEK = 2, CONTRARY = 3, STUBBORN = 4, FICKLE = 5;

    static boolean isKind(int kind) {
      return kind >= PLAIN && kind <= FICKLE;
    }

    static int heard(int kind, int own, int other, boolean otherIsLesser, int matter,
        boolean isWeighty) {
      int plain = otherIsLesser ? taken(own, other, matter) : own;
      int proud = isWeighty ? own : plain;
      switch (kind) {
        case PLAIN: return plain;
        case PROUD: return proud;
        case MEEK: return taken(own, other, matter);
        case CONTRARY: return proud ^ matterBehind(matter);
        case FICKLE: return taken(own, other, matter | matterBehind(matter));
        default: return own;
      }
    }

    private static int taken(int own, int other, int matters) {
      return (own & ~matters) | (other & matters);
    }

    private static int matterBehind(int matter) {
      int next = matter << 1;
      return next > ALL_MATTERS ? 1 : next;
    }
  }

  /** All that an IMAGE keeps. */
  private static final class Town {
    private static final int MOST_PAIRS = 8;
    private static final int MOST_UNDOS = 12;
    private static final int MOST_COUPLES = 10;

    int people;
    final int[] kinds = new int[MOST_PEOPLE];
    long minds;
    long seen;
    int weights;
    int least;
    int most;
    int pairs;
    final int[] firsts = new int[MOST_PAIRS];
    final int[] seconds = new int[MOST_PAIRS];
    int evening;
    int undoable;
    final long[] mindsAhead = new long[MOST_UNDOS];
    final int[] eveningsAhead = new int[MOST_UNDOS];
    int couples;
    final int[] couplesApart = new int[MOST_COUPLES];
    final boolean[] couplesLet = new boolean[MOST_COUPLES];

    Town() {
      begin();
    }

    void begin() {
      people = 0;
      minds = 0L;
      seen = 0L;
      weights = 0;
      least = 2;
      most = 4;
      pairs = 0;
      evening = 0;
      undoable = 0;
      couples = 0;
    }

    void becomeLike(Town other) {
      people = other.people;
      System.arraycopy(other.kinds, 0, kinds, 0, MOST_PEOPLE);
      minds = other.minds;
      seen = other.seen;
      weights = other.weights;
      least = other.least;
      most = other.most;
      pairs = other.pairs;
      System.arraycopy(other.firsts, 0, firsts, 0, MOST_PAIRS);
      System.arraycopy(other.seconds, 0, seconds, 0, MOST_PAIRS);
      evening = other.evening;
      undoable = other.undoable;
      System.arraycopy(other.mindsAhead, 0, mindsAhead, 0, MOST_UNDOS);
      System.arraycopy(other.eveningsAhead, 0, eveningsAhead, 0, MOST_UNDOS);
      couples = other.couples;
      System.arraycopy(other.couplesApart, 0, couplesApart, 0, MOST_COUPLES);
      System.arraycopy(other.couplesLet, 0, couplesLet, 0, MOST_COUPLES);
    }

    boolean has(int person) {
      return person >= 0 && person < people;
    }

    boolean hasTwo(int a, int b) {
      return has(a) && has(b) && a != b;
    }

    int welcome(int kind, int opinions) {
      if (!Kinds.isKind(kind) || !isSet(opinions)) return BAD;
      if (people >= MOST_PEOPLE) return FULL;
      int person = people;
      people++;
      kinds[person] = kind;
      minds = Minds.with(minds, person, opinions);
      seen = Minds.with(seen, person, opinions);
      undoable = 0;
      return person;
    }

    int tell(int person, int opinions) {
      int was = Minds.of(minds, person);
      minds = Minds.with(minds, person, opinions);
      undoable = 0;
      return was;
    }

    int turn(int person, int kind) {
      if (!has(person)) return BAD;
      int was = kinds[person];
      kinds[person] = kind;
      return was;
    }

    int weigh(int matters) {
      if (!isSet(matters)) return BAD;
      int were = weights;
      weights = matters;
      return were;
    }

    int permit(int fewest, int highest) {
      if (fewest < 0 || highest > MOST_APART || fewest > highest) return BAD;
      int was = 100 * least + most;
      least = fewest;
      most = highest;
      return was;
    }

    int arrange(int a, int b) {
      if (!hasTwo(a, b)) return BAD;
      if (pairs >= MOST_PAIRS) return FULL;
      int pair = pairs;
      pairs++;
      firsts[pair] = a;
      seconds[pair] = b;
      return pair;
    }

    int note(int apart, boolean let) {
      if (apart < 0 || apart > MOST_APART) return BAD;
      if (couples >= MOST_COUPLES) return FULL;
      couplesApart[couples] = apart;
      couplesLet[couples] = let;
      couples++;
      return couples;
    }

    boolean couplesFit(int fewest, int highest) {
      for (int i = 0; i < couples; i++) {
        boolean inside = couplesApart[i] >= fewest && couplesApart[i] <= highest;
        if (inside != couplesLet[i]) return false;
      }
      return true;
    }

    int distance(int opinions, int others) {
      int differing = opinions ^ others;
      return Integer.bitCount(differing) + Integer.bitCount(differing & weights);
    }

    boolean isLicensed(int distance) {
      return distance >= least && distance <= most;
    }

    boolean mayWed(long thoughts, int a, int b) {
      return isLicensed(distance(Minds.of(thoughts, a), Minds.of(thoughts, b)));
    }

    int lawfulPairs(long thoughts) {
      int many = 0;
      for (int a = 0; a < people; a++) {
        for (int b = a + 1; b < people; b++) {
          if (mayWed(thoughts, a, b)) many++;
        }
      }
      return many;
    }

    boolean mayAllWed(int set) {
      for (int a = 0; a < people; a++) {
        for (int b = a + 1; b < people; b++) {
          boolean both = (set >> a & 1) == 1 && (set >> b & 1) == 1;
          if (both && !mayWed(minds, a, b)) return false;
        }
      }
      return true;
    }

    long behindTalk(long thoughts, int a, int b) {
      if (!hasTwo(a, b)) return thoughts;
      int one = Minds.of(thoughts, a);
      int two = Minds.of(thoughts, b);
      int differing = one ^ two;
      int light = differing & ~weights;
      int matter = Integer.lowestOneBit(light != 0 ? light : differing);
      if (matter == 0) return thoughts;
      boolean isWeighty = light == 0;
      int oneThen = Kinds.heard(kinds[a], one, two, b < a, matter, isWeighty);
      int twoThen = Kinds.heard(kinds[b], two, one, a < b, matter, isWeighty);
      return Minds.with(Minds.with(thoughts, a, oneThen), b, twoThen);
    }

    long behindEvening(long thoughts, int number) {
      if (pairs < 1 || number < 0) return thoughts;
      int pair = number % pairs;
      return behindTalk(thoughts, firsts[pair], seconds[pair]);
    }

    void remember() {
      if (undoable >= MOST_UNDOS) {
        undoable = MOST_UNDOS - 1;
        System.arraycopy(mindsAhead, 1, mindsAhead, 0, undoable);
        System.arraycopy(eveningsAhead, 1, eveningsAhead, 0, undoable);
      }
      mindsAhead[undoable] = minds;
      eveningsAhead[undoable] = evening;
      undoable++;
    }

    boolean takeBack() {
      if (undoable < 1) return false;
      undoable--;
      minds = mindsAhead[undoable];
      evening = eveningsAhead[undoable];
      return true;
    }

    long addTo(long digest) {
      long h = 31L * digest + weights;
      h = 31L * h + least;
      h = 31L * h + most;
      for (int person = 0; person < people; person++) {
        h = 31L * h + kinds[person];
        h = 31L * h + Minds.of(minds, person);
        h = 31L * h + Minds.of(seen, person);
      }
      for (int i = 0; i < pairs; i++) {
        h = 31L * h + firsts[i];
        h = 31L * h + seconds[i];
      }
      for (int i = 0; i < couples; i++) {
        h = 31L * h + couplesApart[i];
        h = 31L * h + (couplesLet[i] ? 1 : 0);
      }
      return h;
    }
  }

  /** What all think behind each of the EVENINGS to come. */
  private static final class Course {
    private final long[] minds = new long[MOST_EVENINGS + 1];

    void follow(Town town) {
      minds[0] = town.minds;
      for (int t = 1; t <= MOST_EVENINGS; t++) {
        minds[t] = town.behindEvening(minds[t - 1], town.evening + t - 1);
      }
    }

    long mindsBehind(int t) {
      return t >= 0 && t <= MOST_EVENINGS ? minds[t] : 0L;
    }

    int parted(Town town, int a, int b) {
      for (int t = 0; t <= MOST_EVENINGS; t++) {
        if (!town.mayWed(minds[t], a, b)) return t;
      }
      return NONE;
    }

    int likeAhead(int t, int length) {
      if (t > MOST_EVENINGS || length < 1) return NONE;
      for (int s = 0; s < t; s++) {
        if ((t - s) % length == 0 && minds[s] == minds[t]) return s;
      }
      return NONE;
    }

    int oneMind(int people) {
      for (int t = 0; t <= MOST_EVENINGS; t++) {
        if (Minds.alike(minds[t], people)) return t;
      }
      return NONE;
    }

    /** The pairs LAWFUL now and behind each of the next EVENINGS, as bits: see Marriages.bit. */
    long lastingPairs(Town town, int evenings) {
      long pairs = 0L;
      for (int a = 0; a < town.people; a++) {
        for (int b = a + 1; b < town.people; b++) {
          int end = parted(town, a, b);
          if (end == NONE || end > evenings) pairs |= Marriages.bit(a, b);
        }
      }
      return pairs;
    }
  }

  /** MARRIAGES among the pairs that a set of bits holds. */
  private static final class Marriages {
    static long bit(int a, int b) {
      return 1L << (MOST_PEOPLE * a + b);
    }

    /** How many there can be among person and all behind it who are not taken, as bits. */
    private static int most(long pairs, int taken, int person) {
      if (person >= MOST_PEOPLE) return 0;
      int best = most(pairs, taken, person + 1);
      if ((taken >> person & 1) == 1) return best;
      for (int other = person + 1; other < MOST_PEOPLE; other++) {
        if (isFree(pairs, taken, person, other)) {
          best = Math.max(best, 1 + most(pairs, taken | 1 << other, person + 1));
        }
      }
      return best;
    }

    static int spouse(long pairs, int whose) {
      int taken = 0;
      for (int person = 0; person <= whose; person++) {
        if ((taken >> person & 1) == 0) {
          int other = firstChoice(pairs, taken, person);
          if (person == whose) return other;
          if (other == whose) return person;
          if (other != NONE) taken |= 1 << other;
        }
      }
      return NONE;
    }

    private static int firstChoice(long pairs, int taken, int person) {
      int best = most(pairs, taken, person);
      if (most(pairs, taken, person + 1) == best) return NONE;
      for (int other = person + 1; other < MOST_PEOPLE; other++) {
        boolean free = isFree(pairs, taken, person, other);
        if (free && 1 + most(pairs, taken | 1 << other, person + 1) == best) return other;
      }
      return NONE;
    }

    private static boolean isFree(long pairs, int taken, int person, int other) {
      return (pairs & bit(person, other)) != 0L && (taken >> other & 1) == 0;
    }
  }

  /** DINNERS of a couple; a DINNER is its number, 0 to HIGHEST. */
  private static final class Dinners {
    private static final int HIGHEST = 2 * MOST_PEOPLE;

    private static int rows(Town town, long minds, int a, int b, int left) {
      if (left <= 0) return 1;
      long talked = town.behindTalk(minds, a, b);
      int many = 0;
      for (int dinner = 0; dinner <= HIGHEST; dinner++) {
        if (canBe(town, a, b, dinner)) {
          long behind = behindDinner(town, talked, a, b, dinner);
          if (town.mayWed(behind, a, b)) many += rows(town, behind, a, b, left - 1);
        }
      }
      return many;
    }

    /** NONE if there is no row, whichever of its DINNERS is asked for. */
    static int ofFirstRow(Town town, int a, int b, int evenings, int i) {
      long minds = town.minds;
      for (int e = 0; e < evenings; e++) {
        long talked = town.behindTalk(minds, a, b);
        int dinner = first(town, talked, a, b, evenings - e - 1);
        if (dinner == NONE || e == i) return dinner;
        minds = behindDinner(town, talked, a, b, dinner);
      }
      return NOT_SO_MANY;
    }

    /** The least DINNER by which they are LAWFUL and the EVENINGS that are left can be filled. */
    private static int first(Town town, long talked, int a, int b, int left) {
      for (int dinner = 0; dinner <= HIGHEST; dinner++) {
        if (canBe(town, a, b, dinner)) {
          long behind = behindDinner(town, talked, a, b, dinner);
          if (town.mayWed(behind, a, b) && rows(town, behind, a, b, left) > 0) return dinner;
        }
      }
      return NONE;
    }

    private static boolean canBe(Town town, int a, int b, int dinner) {
      int third = third(dinner);
      return dinner == 0 || town.has(third) && third != a && third != b;
    }

    private static long behindDinner(Town town, long talked, int a, int b, int dinner) {
      if (dinner == 0) return talked;
      return town.behindTalk(talked, dinner <= MOST_PEOPLE ? a : b, third(dinner));
    }

    private static int third(int dinner) {
      return (dinner - 1) % MOST_PEOPLE;
    }
  }

  /** SEATS: person 0 sits at place 0, and the places are filled one behind the other. */
  private static final class Table {
    /** The most LAWFUL pairs by any order of those who do not sit (as bits) from a place on. */
    private static int most(Town town, long minds, int seated, int last, int place) {
      if (place >= town.people) return town.lawfulPairs(town.behindTalk(minds, last, 0));
      int best = 0;
      for (int next = 1; next < town.people; next++) {
        if ((seated >> next & 1) == 0) {
          long talked = town.behindTalk(minds, last, next);
          best = Math.max(best, most(town, talked, seated | 1 << next, next, place + 1));
        }
      }
      return best;
    }

    static int sitter(Town town, int where) {
      long minds = town.minds;
      int seated = 1;
      int last = 0;
      for (int place = 1; place <= where; place++) {
        int next = firstChoice(town, minds, seated, last, place);
        minds = town.behindTalk(minds, last, next);
        seated |= 1 << next;
        last = next;
      }
      return last;
    }

    private static int firstChoice(Town town, long minds, int seated, int last, int place) {
      int best = most(town, minds, seated, last, place);
      for (int next = 1; next < town.people; next++) {
        if ((seated >> next & 1) == 0) {
          long talked = town.behindTalk(minds, last, next);
          if (most(town, talked, seated | 1 << next, next, place + 1) == best) return next;
        }
      }
      return 0;
    }
  }

  /** THE FRACTION. */
  private static final class Fraction {
    int above = 0;
    int below = 1;

    void becomeHalves(int count, int halvings) {
      above = count;
      below = 1 << halvings;
      for (int i = 0; i < halvings; i++) {
        if (above % 2 == 0) {
          above /= 2;
          below /= 2;
        }
      }
    }
  }

  /** THE TEXT, read TOKEN by TOKEN. */
  private static final class TownText {
    private static final int MOST_BYTES = 150;
    private static final int FAULT = -10;
    private static final int REFUSED = -1000;

    private final byte[] bytes = new byte[MOST_BYTES];
    int length;
    private int start;
    private int end;

    int append(int c) {
      if (c < 0 || c > 127) return BAD;
      if (length >= MOST_BYTES) return FULL;
      bytes[length] = (byte) c;
      length++;
      return length;
    }

    /** Tells all ITEMS to a town, or as many as it takes: a FAULT counts ahead of a refusal. */
    int tellTo(Town town) {
      int items = 0;
      int refused = NONE;
      end = 0;
      step();
      for (int i = 0; i < MOST_BYTES && start < length; i++) {
        int answer = tellItem(town);
        if (answer == FAULT || !isSign(';')) return FAULT - start;
        if (answer < 0 && refused == NONE) refused = items;
        items++;
        step();
      }
      return refused == NONE ? items : REFUSED - refused;
    }

    /** Steps to where the ITEM's ; must stand, or stays at the TOKEN that is a FAULT. */
    private int tellItem(Town town) {
      if (isWord("person")) {
        step();
        int kind = takeNumber();
        int opinions = kind == NONE ? NONE : takeMatters();
        return opinions == NONE ? FAULT : town.welcome(kind, opinions);
      }
      if (isWord("weighty")) {
        step();
        int matters = takeMatters();
        return matters == NONE ? FAULT : town.weigh(matters);
      }
      boolean isLicence = isWord("licence");
      if (!isLicence && !isWord("talk")) return FAULT;
      step();
      int first = takeNumber();
      int second = first == NONE ? NONE : takeNumber();
      if (second == NONE) return FAULT;
      return isLicence ? town.permit(first, second) : town.arrange(first, second);
    }

    /** Goes on to the next TOKEN; behind the last one it starts at THE TEXT's length. */
    private void step() {
      start = end;
      while (start < length && at(start) == ' ') start++;
      end = start + 1;
      if (isLetter(start)) {
        while (end < length && isLetter(end)) end++;
      } else if (isFigure(start)) {
        while (end < length && isFigure(end)) end++;
      }
    }

    private int takeNumber() {
      if (!isFigure(start) || end - start > 2) return NONE;
      int number = 0;
      for (int i = start; i < end; i++) number = 10 * number + at(i) - '0';
      step();
      return number;
    }

    private int takeMatters() {
      int matters = 0;
      if (!isWord("x")) {
        for (int i = start; i < end; i++) {
          int bit = at(i) >= 'a' && at(i) <= 'j' ? 1 << (at(i) - 'a') : 0;
          if (bit <= matters) return NONE;
          matters |= bit;
        }
      }
      step();
      return matters;
    }

    private boolean isWord(String word) {
      if (end - start != word.length()) return false;
      for (int i = 0; i < word.length(); i++) {
        if (at(start + i) != word.charAt(i)) return false;
      }
      return true;
    }

    private boolean isSign(char sign) {
      return at(start) == sign;
    }

    private boolean isLetter(int place) {
      return at(place) >= 'a' && at(place) <= 'z';
    }

    private boolean isFigure(int place) {
      return at(place) >= '0' && at(place) <= '9';
    }

    private int at(int place) {
      return place >= 0 && place < length && place < MOST_BYTES ? bytes[place] : NONE;
    }
  }
}
