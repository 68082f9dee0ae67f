/** Promises 25 to 33: marriages. */
public final class MarriagesTest {
  private static final int PLAIN = 0, MEEK = 2, STUBBORN = 4;

  public static void main(String[] args) {
    wed();
    wedThatLast();
    dinners();
    dinnersThatAreFew();
    feigned();
    seenAndSwayed();
    seats();
    seatsByTalk();
    coupleAndBurn();
    law();
    Due.end("MarriagesTest");
  }

  private static WedApart town(int kind, int... opinions) {
    WedApart x = new WedApart();
    for (int each : opinions) x.person(kind, each);
    return x;
  }

  private static void wed() {
    WedApart nobody = new WedApart();
    Due.is("25 nobody", nobody.wed(0, -1), 0);
    Due.is("25 nobody's spouse", nobody.wed(0, 0), -10);
    // 0 may wed 1, 2, 3 and 1 may wed 0 alone
    WedApart x = town(STUBBORN, 0, 3, 12, 48);
    x.licence(2, 2);
    Due.is("25 one marriage", x.wed(0, -1), 1);
    Due.is("25 0 weds the least", x.wed(0, 0), 1);
    Due.is("25 1 weds 0", x.wed(0, 1), 0);
    Due.is("25 2 is single", x.wed(0, 2), -1);
    x.licence(2, 4);
    Due.is("25 all lawful: two", x.wed(0, -1), 2);
    Due.is("25 0 and 1", x.wed(0, 0), 1);
    Due.is("25 2 and 3", x.wed(0, 3), 2);
    x.person(STUBBORN, 3 << 6);
    Due.is("25 of five, two", x.wed(0, -1), 2);
    Due.is("25 single ahead", x.wed(0, 0), -1);
    Due.is("25 1 and 2", x.wed(0, 1), 2);
    Due.is("25 3 and 4", x.wed(0, 4), 3);
    // the first choice of 0 would leave 1 and 2 with nobody
    WedApart y = town(STUBBORN, 0, 3, 12, 15 + 16);
    y.licence(2, 3);
    Due.is("25 two of them", y.wed(0, -1), 2);
    Due.is("25 0 weds 1", y.wed(0, 0), 1);
    y.licence(3, 5);
    Due.is("25 0 and 3 or 1 and 2", y.wed(0, -1), 1 + (y.apart(1, 2) >= 3 ? 1 : 0));
    Due.is("25 m 41", x.wed(41, 0), -10);
    Due.is("25 m -1", x.wed(-1, 0), -10);
    Due.is("25 no such person", x.wed(0, 5), -10);
    Due.is("25 person -2", x.wed(0, -2), -10);
    Due.is("25 status", x.status(0), 4);
  }

  private static void wedThatLast() {
    WedApart x = new WedApart();
    x.person(MEEK, 0);
    x.person(STUBBORN, 7);
    x.talk(0, 1);
    Due.is("25 now", x.wed(0, -1), 1);
    Due.is("25 behind one, two apart", x.wed(1, -1), 1);
    Due.is("25 behind two, one apart", x.wed(2, -1), 0);
    Due.is("25 single", x.wed(2, 0), -1);
    Due.is("25 behind 40", x.wed(40, 1), -1);
    x.licence(0, 2);
    Due.is("25 not now, but then", x.wed(5, -1), 0);
  }

  private static void dinners() {
    WedApart x = new WedApart();
    x.person(MEEK, 0);
    x.person(STUBBORN, 31);
    Due.is("26 two alone: one row", x.dinners(0, 1, 3, -1), 1);
    Due.is("26 nobody comes", x.dinners(0, 1, 3, 2), 0);
    Due.is("26 four evenings: one apart", x.dinners(0, 1, 4, -1), 0);
    Due.is("26 not so many", x.dinners(0, 1, 3, 3), -5);
    Due.is("26 far from so many", x.dinners(0, 1, 3, 2147483647), -5);
    Due.is("26 no row", x.dinners(0, 1, 4, 0), -1);
    Due.is("26 no row: not its last one", x.dinners(0, 1, 4, 3), -1);
    Due.is("26 no row, ahead of not so many", x.dinners(0, 1, 4, 4), -1);
    Due.is("26 no row, ahead of far from so many", x.dinners(0, 1, 4, 2147483647), -1);
    Due.is("26 nothing changes", x.opinions(0) + x.count(2) + x.count(3), 0);
    Due.is("26 status: of -5 and NONE, none", x.status(0), 0);
    Due.is("26 m 0", x.dinners(0, 1, 0, 0), -10);
    Due.is("26 m 5", x.dinners(0, 1, 5, 0), -10);
    Due.is("26 i -2", x.dinners(0, 1, 1, -2), -10);
    Due.is("26 alike", x.dinners(1, 1, 1, 0), -10);
    Due.is("26 no such person", x.dinners(0, 2, 1, 0), -10);
    Due.is("26 person -1", x.dinners(-1, 1, 1, 9), -10);
    Due.is("26 status", x.status(0), 6);
    x.talk(0, 1);
    x.evening();
    Due.is("26 the calendar rests", x.dinners(0, 1, 2, -1), 1);
    Due.is("26 as it is now", x.dinners(0, 1, 3, -1), 0);
  }

  /** A couple that only a third one keeps apart. */
  private static void dinnersThatAreFew() {
    WedApart x = new WedApart();
    x.person(STUBBORN, 0);
    x.person(MEEK, 3);
    x.person(STUBBORN, 3);
    Due.is("26 one row", x.dinners(0, 1, 1, -1), 1);
    Due.is("26 the first with the third: no help", x.dinners(0, 1, 1, 0), 1 + 6 + 2);
    Due.is("26 told the other way round", x.dinners(1, 0, 1, 0), 1 + 2);
    Due.is("26 four evenings", x.dinners(0, 1, 4, -1), 1);
    Due.is("26 the fourth", x.dinners(0, 1, 4, 3), 9);
    x.licence(0, 20);
    Due.is("26 three ways a dinner", x.dinners(0, 1, 4, -1), 81);
    Due.is("26 the first row", x.dinners(0, 1, 4, 3), 0);
    x.person(STUBBORN, 3);
    Due.is("26 five ways a dinner", x.dinners(2, 0, 4, -1), 625);
    x.licence(1, 1);
    x.become(0, PLAIN);
    Due.is("26 a least one, rising", x.dinners(1, 0, 1, 0), 0);
  }

  private static void feigned() {
    WedApart x = town(STUBBORN, 0, 1023, 1);
    Due.is("27 four apart is enough", x.feigned(0, 1), 63);
    Due.is("27 the other way round", x.feigned(1, 0), 63);
    Due.is("27 one more", x.feigned(0, 2), 2);
    Due.is("27 from the other one", x.feigned(2, 0), 2);
    x.licence(1, 1);
    Due.is("27 none needed", x.feigned(0, 2), 0);
    x.weighty(1 + 4);
    x.licence(3, 3);
    Due.is("27 fewest ahead of least", x.feigned(0, 2), 2);
    x.licence(4, 4);
    Due.is("27 one weighty one", x.feigned(0, 2), 4);
    x.licence(0, 0);
    Due.is("27 just the one", x.feigned(0, 2), 1);
    x.licence(13, 20);
    Due.is("27 none", x.feigned(0, 1), -1);
    x.licence(12, 12);
    Due.is("27 as far as can be", x.feigned(0, 1), 0);
    x.weighty(0);
    x.thinks(1, 0);
    x.licence(10, 10);
    Due.is("27 all of them", x.feigned(0, 1), 1023);
    Due.is("27 alike", x.feigned(1, 1), -2);
    Due.is("27 no such person", x.feigned(1, 3), -2);
    Due.is("27 person -1", x.feigned(-1, 1), -2);
  }

  private static void seenAndSwayed() {
    WedApart x = new WedApart();
    Due.is("29 nobody", x.swayed(0), 0);
    Due.is("29 nobody, first", x.swayed(1), -1);
    x.person(MEEK, 0);
    x.person(STUBBORN, 7);
    x.person(STUBBORN, 5);
    x.person(STUBBORN, 0);
    Due.is("28 as it came", x.seen(0, 0), 0);
    Due.is("28 opinions stay", x.opinions(0), 0);
    // 0 and 3 think alike, and the stubborn ones change nothing
    Due.is("29 pairs that change nothing", x.swayed(0), 4);
    Due.is("29 the first", x.swayed(1), 3);
    Due.is("28 seen", x.seen(0, 1), 0);
    Due.is("29 two can have swayed", x.swayed(0), 2);
    Due.is("29 the first of them", x.swayed(1), 1);
    x.thinks(1, 6);
    Due.is("29 all must be as seen", x.swayed(0), 0);
    x.seen(1, 6);
    Due.is("29 with 2 alone", x.swayed(0), 1);
    Due.is("29 0 and 2", x.swayed(1), 2);
    Due.is("28 was", x.seen(0, 1023), 1);
    Due.is("29 none", x.swayed(1), -1);
    Due.is("29 none of them", x.swayed(0), 0);
    Due.is("28 opinions 1024", x.seen(0, 1024), -2);
    Due.is("28 opinions -1", x.seen(0, -1), -2);
    Due.is("28 no such person", x.seen(4, 0), -2);
    Due.is("28 person -1", x.seen(-1, 0), -2);
    Due.is("29 what 2", x.swayed(2), -10);
    Due.is("29 what -1", x.swayed(-1), -10);
    Due.is("29 status", x.status(0), 6);
    WedApart y = town(STUBBORN, 9, 9, 9);
    Due.is("29 three pairs", y.swayed(0), 3);
    Due.is("29 10 the lesser and the other one", y.swayed(1), 1);
    y.become(1, MEEK);
    y.thinks(2, 8);
    y.seen(2, 8);
    y.seen(1, 8);
    Due.is("29 1 and 2", y.swayed(1), 12);
  }

  private static void seats() {
    WedApart x = new WedApart();
    Due.is("30 nobody", x.seats(-1), 0);
    Due.is("30 nobody: no place", x.seats(0), -5);
    Due.is("30 -2", x.seats(-2), -10);
    x.person(MEEK, 0);
    Due.is("30 one", x.seats(-1), 0);
    Due.is("30 one sits", x.seats(0), 0);
    Due.is("30 one place", x.seats(1), -5);
    x.person(MEEK, 15);
    // two talk twice: at places 0 and 1, then at the last and 0
    Due.is("30 two: four apart still", x.seats(-1), 1);
    x.become(1, STUBBORN);
    Due.is("30 two: two apart behind two talks", x.seats(-1), 1);
    x.thinks(1, 7);
    Due.is("30 two: one apart behind two talks", x.seats(-1), 0);
    Due.is("30 the second sits", x.seats(1), 1);
    x.person(STUBBORN, 0);
    x.person(STUBBORN, 0);
    Due.is("30 like ones: the first", x.seats(2), 2);
    Due.is("30 nothing changes", x.opinions(0), 0);
    Due.is("30 no place", x.seats(2147483647), -5);
    Due.is("30 status", x.status(0), 1);
  }

  /** Only one order leaves both pairs with 0 apart as the LICENCE asks. */
  private static void seatsByTalk() {
    WedApart x = town(STUBBORN, 0, 1, 3, 7, 15);
    x.licence(1, 1);
    Due.is("30 stubborn ones: as they are", x.seats(-1), 4);
    for (int place = 0; place < 5; place++) Due.is("30 place " + place, x.seats(place), place);
    WedApart y = new WedApart();
    y.person(STUBBORN, 1);
    y.person(MEEK, 0);
    y.person(STUBBORN, 2);
    y.person(STUBBORN, 2);
    y.licence(0, 0);
    // 1 comes to think as 2 and 3 only if it talks with one of them and not behind that with 0
    Due.is("30 a place with 2 and 3", y.seats(-1), 3);
    Due.is("30 place 1", y.seats(1), 2);
    Due.is("30 place 2", y.seats(2), 1);
    Due.is("30 place 3", y.seats(3), 3);
    y.become(1, STUBBORN);
    y.thinks(1, 2);
    Due.is("30 all are as they were", y.seats(1), 1);
  }

  private static void coupleAndBurn() {
    WedApart x = new WedApart();
    Due.is("32 none", x.burn(), 0);
    Due.is("31 apart -1", x.couple(-1, true), -2);
    Due.is("31 apart 21", x.couple(21, false), -2);
    for (int i = 1; i <= 10; i++) Due.is("31 couple " + i, x.couple(i == 1 ? 0 : 20, i == 1), i);
    Due.is("31 BAD ahead of FULL", x.couple(21, true), -2);
    Due.is("31 FULL", x.couple(0, true), -4);
    Due.is("31 ten", x.count(4), 10);
    Due.is("31 status FULL", x.status(2), 1);
    Due.is("32 ten", x.burn(), 10);
    Due.is("32 no more", x.count(4), 0);
    Due.is("31 anew", x.couple(20, true), 1);
  }

  private static void law() {
    WedApart x = new WedApart();
    Due.is("33 none told", x.law(0), 21 * 22 / 2);
    Due.is("33 none told: the narrowest", x.law(1), 0);
    x.couple(5, true);
    Due.is("33 around 5", x.law(0), 6 * 16);
    Due.is("33 just 5", x.law(1), 505);
    x.couple(7, true);
    Due.is("33 from 5 to 7", x.law(1), 507);
    x.couple(3, false);
    Due.is("33 not 3", x.law(0), 2 * 14);
    x.couple(9, false);
    Due.is("33 not 9", x.law(0), 2 * 2);
    x.couple(6, false);
    Due.is("33 none", x.law(0), 0);
    Due.is("33 none is narrowest", x.law(1), -1);
    x.burn();
    x.couple(0, false);
    Due.is("33 not 0: the least LEAST", x.law(1), 101);
    x.couple(20, false);
    Due.is("33 not 20", x.law(0), 19 * 20 / 2);
    Due.is("33 what 2", x.law(2), -10);
    Due.is("33 what -1", x.law(-1), -10);
    Due.is("33 status", x.status(0), 2);
    Due.is("33 the licence is as told", x.licence(2, 4), 204);
  }
}
