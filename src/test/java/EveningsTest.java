/** Promises 17 to 24: evenings. */
public final class EveningsTest {
  private static final int PLAIN = 0, PROUD = 1, MEEK = 2, CONTRARY = 3, STUBBORN = 4, FICKLE = 5;

  public static void main(String[] args) {
    kinds();
    matters();
    evening();
    meetBad();
    undo();
    behind();
    lasts();
    again();
    mind();
    farLasts();
    farAgain();
    farMind();
    stops();
    Due.end("EveningsTest");
  }

  private static WedApart town(int[] kinds, int[] opinions, int[] firsts, int[] seconds) {
    WedApart x = new WedApart();
    for (int i = 0; i < kinds.length; i++) x.person(kinds[i], opinions[i]);
    for (int i = 0; i < firsts.length; i++) x.talk(firsts[i], seconds[i]);
    return x;
  }

  private static void evenings(WedApart x, int many) {
    for (int i = 0; i < many; i++) x.evening();
  }

  private static WedApart two(int kind, int opinions, int other, int others) {
    WedApart x = new WedApart();
    x.person(kind, opinions);
    x.person(other, others);
    return x;
  }

  /** What the second one, of a kind, thinks behind a TALK with the first one, who is STUBBORN. */
  private static int under(int kind, int own, int other, int weighty) {
    WedApart x = two(STUBBORN, other, kind, own);
    x.weighty(weighty);
    Due.is("18 kind " + kind + " talks", x.meet(0, 1), x.opinions(1) == own ? 0 : 1);
    Due.is("18 the stubborn one", x.opinions(0), other);
    return x.opinions(1);
  }

  /** The same of the first one, whose other one is of a greater number. */
  private static int over(int kind, int own, int other, int weighty) {
    WedApart x = two(kind, own, STUBBORN, other);
    x.weighty(weighty);
    x.meet(1, 0);
    return x.opinions(0);
  }

  private static void kinds() {
    Due.is("18 plain under", under(PLAIN, 0, 7, 0), 1);
    Due.is("18 plain over", over(PLAIN, 0, 7, 0), 0);
    Due.is("18 plain, weighty", under(PLAIN, 0, 7, 7), 1);
    Due.is("18 proud under", under(PROUD, 0, 7, 0), 1);
    Due.is("18 proud over", over(PROUD, 0, 7, 0), 0);
    Due.is("18 proud, weighty", under(PROUD, 0, 7, 7), 0);
    Due.is("18 proud, others weighty", under(PROUD, 0, 7, 6), 1);
    Due.is("18 meek under", under(MEEK, 7, 0, 0), 6);
    Due.is("18 meek over", over(MEEK, 7, 0, 0), 6);
    Due.is("18 meek, weighty", over(MEEK, 7, 0, 7), 6);
    Due.is("18 contrary under", under(CONTRARY, 0, 7, 0), 3);
    Due.is("18 contrary over", over(CONTRARY, 0, 7, 0), 2);
    Due.is("18 contrary over, for it", over(CONTRARY, 6, 7, 0), 4);
    Due.is("18 contrary, weighty", under(CONTRARY, 0, 7, 7), 2);
    Due.is("18 contrary, 0 behind 9", under(CONTRARY, 0, 512, 0), 513);
    Due.is("18 contrary over, 0 behind 9", over(CONTRARY, 1, 513, 0), 0);
    Due.is("18 stubborn under", under(STUBBORN, 0, 7, 0), 0);
    Due.is("18 stubborn over", over(STUBBORN, 0, 7, 0), 0);
    Due.is("18 fickle under", under(FICKLE, 0, 7, 0), 3);
    Due.is("18 fickle over", over(FICKLE, 7, 0, 0), 4);
    Due.is("18 fickle, weighty", over(FICKLE, 0, 7, 7), 3);
    Due.is("18 fickle, alike on what is behind", over(FICKLE, 8, 5, 0), 9);
    Due.is("18 fickle, 0 behind 9", over(FICKLE, 0, 513, 1), 513);
    WedApart both = two(MEEK, 0, MEEK, 7);
    Due.is("18 both by what was ahead", both.meet(0, 1), 2);
    Due.is("18 first", both.opinions(0), 1);
    Due.is("18 second", both.opinions(1), 6);
  }

  private static void matters() {
    Due.is("18 the least one", under(MEEK, 0, 12, 0), 4);
    Due.is("18 not weighty ones ahead", under(MEEK, 0, 13, 1), 4);
    Due.is("18 the last one", under(MEEK, 0, 513, 511), 512);
    Due.is("18 weighty ones alone: the least", under(MEEK, 0, 12, 1023), 4);
    Due.is("18 weighty, alike on the others", under(MEEK, 3, 15, 12), 7);
    WedApart x = two(MEEK, 9, CONTRARY, 9);
    Due.is("18 none: nothing changes", x.meet(0, 1), 0);
    Due.is("18 none: may be undone", x.count(3), 1);
    Due.is("18 none: contrary", x.opinions(1), 9);
  }

  private static void evening() {
    WedApart x = new WedApart();
    Due.is("17 nobody", x.evening(), 0);
    Due.is("17 gone by", x.count(2), 1);
    x.person(STUBBORN, 1);
    x.person(MEEK, 6);
    x.person(MEEK, 8);
    Due.is("17 no calendar", x.evening(), 0);
    x.talk(0, 1);
    x.talk(2, 1);
    x.talk(0, 2);
    Due.is("17 evening 2 is pair 2", x.evening(), 1);
    Due.is("17 the third one", x.opinions(2), 9);
    Due.is("17 evening 3 is pair 0", x.evening(), 1);
    Due.is("17 the second one", x.opinions(1), 7);
    Due.is("17 evening 4 is pair 1", x.evening(), 2);
    Due.is("17 the second one then", x.opinions(1), 5);
    Due.is("17 the third one then", x.opinions(2), 11);
    Due.is("17 gone by then", x.count(2), 5);
    x.meet(0, 1);
    Due.is("18 no evening goes by", x.count(2), 5);
  }

  private static void meetBad() {
    WedApart x = two(MEEK, 0, MEEK, 1);
    Due.is("18 alike", x.meet(0, 0), -2);
    Due.is("18 no such person", x.meet(0, 2), -2);
    Due.is("18 person -1", x.meet(-1, 0), -2);
    Due.is("18 none to undo", x.count(3), 0);
    Due.is("18 status", x.status(0), 3);
  }

  private static void undo() {
    WedApart x = two(MEEK, 0, STUBBORN, 1023);
    Due.is("19 none", x.undo(), -3);
    Due.is("19 status NO", x.status(1), 1);
    x.talk(0, 1);
    for (int i = 1; i <= 5; i++) x.evening();
    for (int i = 6; i <= 10; i++) x.meet(0, 1);
    Due.is("19 ten may be undone", x.count(3), 10);
    Due.is("19 all alike", x.opinions(0), 1023);
    Due.is("19 undo a talk", x.undo(), 1);
    Due.is("19 as ahead of it", x.opinions(0), 511);
    Due.is("19 evenings stay", x.count(2), 5);
    for (int i = 0; i < 5; i++) x.undo();
    Due.is("19 as ahead of the fifth evening", x.opinions(0), 15);
    Due.is("19 four evenings", x.count(2), 4);
    Due.is("19 four may be undone", x.count(3), 4);
    for (int i = 0; i < 11; i++) x.evening();
    Due.is("19 twelve at most", x.count(3), 12);
    for (int i = 0; i < 12; i++) Due.is("19 undo", x.undo(), 1);
    Due.is("19 the first ones are lost", x.undo(), -3);
    Due.is("19 as behind them", x.opinions(0), 7);
    Due.is("19 three evenings", x.count(2), 3);
    x.evening();
    x.weighty(3);
    x.licence(0, 0);
    x.become(0, PROUD);
    x.clean();
    x.seen(0, 99);
    Due.is("19 what else is told leaves it", x.undo(), 1);
    Due.is("19 weighty stays", x.weighty(0), 3);
    Due.is("19 kind stays", x.become(0, PLAIN), PROUD);
    Due.is("19 seen stays", x.seen(0, 99), 99);
    Due.is("19 the calendar stays", x.count(1), 0);
  }

  private static void behind() {
    WedApart x = two(MEEK, 0, STUBBORN, 1023);
    Due.is("20 no calendar", x.behind(0, 200), 0);
    x.talk(0, 1);
    Due.is("20 now", x.behind(0, 0), 0);
    Due.is("20 behind 3", x.behind(0, 3), 7);
    Due.is("20 behind 200", x.behind(0, 200), 1023);
    Due.is("20 the other one", x.behind(1, 200), 1023);
    Due.is("20 nothing changes", x.opinions(0) + x.count(2) + x.count(3), 0);
    Due.is("20 m 201", x.behind(0, 201), -2);
    Due.is("20 m -1", x.behind(0, -1), -2);
    Due.is("20 no such person", x.behind(2, 1), -2);
    Due.is("20 person -1", x.behind(-1, 1), -2);
    WedApart y = two(STUBBORN, 1, MEEK, 0);
    y.person(MEEK, 1023);
    y.talk(0, 1);
    y.talk(1, 2);
    y.evening();
    Due.is("20 the evening's own pair goes on", y.behind(1, 1), 3);
  }

  private static void lasts() {
    WedApart x = two(MEEK, 0, STUBBORN, 15);
    Due.is("21 no calendar: none", x.lasts(0, 1), -1);
    x.talk(1, 0);
    Due.is("21 four apart, at least two", x.lasts(0, 1), 3);
    Due.is("21 the other way round", x.lasts(1, 0), 3);
    x.licence(5, 5);
    Due.is("21 not lawful now", x.lasts(0, 1), 0);
    x.licence(0, 4);
    Due.is("21 none", x.lasts(0, 1), -1);
    Due.is("21 alike", x.lasts(0, 0), -2);
    Due.is("21 no such person", x.lasts(0, 2), -2);
    Due.is("21 person -1", x.lasts(-1, 0), -2);
    Due.is("21 nothing changes", x.count(2), 0);
  }

  /** A couple parted behind 201 EVENINGS, then behind 200: told by letting them go by. */
  private static void farLasts() {
    int[] firsts = {1, 4, 0, 4, 0, 3, 3, 1};
    int[] seconds = {4, 3, 4, 1, 2, 2, 0, 3};
    int[] opinions = {314, 879, 494, 848, 48};
    WedApart x = town(new int[] {CONTRARY, PLAIN, CONTRARY, CONTRARY, CONTRARY}, opinions,
        firsts, seconds);
    x.licence(2, 10);
    evenings(x, 7);
    for (int i = 0; i < opinions.length; i++) x.thinks(i, opinions[i]);
    Due.is("21 behind 201: none", x.lasts(1, 3), -1);
    for (int left = 200; left > 0; left--) {
      x.evening();
      if (left > 197) Due.is("21 behind " + left, x.lasts(1, 3), left);
      if ((x.lawful(1) & 8) == 0) Due.is("21 not lawful, and to go by", left, 0);
    }
    x.evening();
    Due.is("21 lawful no more", x.lawful(1) & 8, 0);
    Due.is("21 parted now", x.lasts(1, 3), 0);
  }

  private static void farAgain() {
    WedApart x = town(new int[] {PROUD, CONTRARY, CONTRARY, PROUD},
        new int[] {399, 264, 503, 923}, new int[] {1, 3, 1, 2, 1, 3}, new int[] {0, 2, 0, 0, 2, 2});
    Due.is("22 behind 200", x.again(0), 200);
    Due.is("22 as behind 152", x.again(1), 152);
    for (int i = 0; i < 4; i++) Due.is("22 person " + i, x.behind(i, 200), x.behind(i, 152));
    WedApart y = town(new int[] {CONTRARY, CONTRARY, CONTRARY}, new int[] {891, 238, 701},
        new int[] {2, 2, 1, 1, 1, 1, 0, 2}, new int[] {0, 1, 2, 2, 0, 2, 1, 0});
    Due.is("22 behind 200, too", y.again(0), 200);
    Due.is("22 as behind 40", y.again(1), 40);
  }

  /** Of one mind behind 201 EVENINGS, then behind 200: told by letting them go by. */
  private static void farMind() {
    int[] firsts = {0, 2, 1, 0, 3, 3, 2, 2};
    int[] seconds = {3, 1, 3, 1, 2, 1, 0, 3};
    int[] opinions = {283, 855, 703, 794};
    WedApart x = town(new int[] {CONTRARY, CONTRARY, CONTRARY, PROUD}, opinions, firsts, seconds);
    evenings(x, 7);
    for (int i = 0; i < opinions.length; i++) x.thinks(i, opinions[i]);
    Due.is("23 behind 201: none", x.mind(), -1);
    Due.is("24 none anyway", x.stops(), -1);
    x.licence(0, 0);
    for (int left = 200; left > 0; left--) {
      x.evening();
      if (left > 197) Due.is("23 behind " + left, x.mind(), left);
      if (x.lawful(0) == 14) Due.is("23 of one mind, and to go by", left, 0);
    }
    x.evening();
    Due.is("23 of one mind", x.lawful(0), 14);
    Due.is("23 one mind now", x.mind(), 0);
  }

  private static void again() {
    WedApart x = new WedApart();
    Due.is("22 nobody t", x.again(0), 1);
    Due.is("22 nobody s", x.again(1), 0);
    Due.is("22 what 2", x.again(2), -10);
    Due.is("22 what -1", x.again(-1), -10);
    Due.is("22 status", x.status(0), 2);
    x.person(STUBBORN, 0);
    x.person(STUBBORN, 1);
    x.talk(0, 1);
    x.talk(0, 1);
    x.talk(1, 0);
    Due.is("22 the calendar's length", x.again(0), 3);
    Due.is("22 from now on", x.again(1), 0);
    x.become(0, MEEK);
    Due.is("22 behind one evening", x.again(0), 4);
    Due.is("22 as behind one", x.again(1), 1);
    x.become(0, CONTRARY);
    x.become(1, CONTRARY);
    long t = x.again(0);
    long s = x.again(1);
    Due.is("22 left over alike", (t - s) % 3, 0);
    Due.is("22 thoughts alike", x.behind(0, (int) t), x.behind(0, (int) s));
  }

  private static void mind() {
    WedApart x = new WedApart();
    Due.is("23 nobody", x.mind(), 0);
    x.person(MEEK, 0);
    Due.is("23 one", x.mind(), 0);
    x.person(STUBBORN, 1023);
    Due.is("23 no calendar", x.mind(), -1);
    x.talk(0, 1);
    Due.is("23 ten evenings", x.mind(), 10);
    x.evening();
    Due.is("23 nine evenings", x.mind(), 9);
    x.become(0, STUBBORN);
    Due.is("23 none", x.mind(), -1);
    x.thinks(0, 1023);
    Due.is("23 now", x.mind(), 0);
  }

  private static void stops() {
    WedApart x = new WedApart();
    Due.is("24 nobody", x.stops(), -1);
    x.person(MEEK, 0);
    x.person(STUBBORN, 7);
    Due.is("24 none anyway", x.stops(), -1);
    x.talk(0, 1);
    Due.is("24 the meek one", x.stops(), 0);
    Due.is("24 its kind stays", x.become(0, MEEK), MEEK);
    x.become(1, PLAIN);
    Due.is("24 both take what the other one thinks: none anyway", x.stops(), -1);
    x.thinks(1, 0);
    Due.is("24 alike now: nobody does", x.stops(), -1);
    WedApart y = two(STUBBORN, 1, PLAIN, 0);
    y.person(PLAIN, 0);
    y.talk(0, 1);
    y.talk(0, 2);
    Due.is("24 one mind", y.mind(), 2);
    Due.is("24 of like ones the least", y.stops(), 1);
  }
}
