/**
 * The boundary cases that each promise names in its own sentence, promise by promise: the least and
 * the greatest that is told, empty, full, gone round. (What is refused: RefusedTest; promises 9 to
 * 11: TextBoundsTest.)
 */
public final class PromiseBoundsTest {
  private static final String TWO = "person(2, 0) person(4, 1023) ";
  private static final String SIX = "person(0, 0) person(1, 1) person(2, 3) person(3, 7) person(4, 15) "
      + "person(5, 31) ";

  public static void main(String[] args) {
    town();
    whoDiffers();
    evenings();
    marriages();
    tellings();
    children();
    images();
    status();
    count();
    digest();
    Due.end("PromiseBoundsTest");
  }

  private static void town() {
    Runs.hold("1 Nobody",
        "count(0)=0 count(1)=0 count(2)=0 count(3)=0 count(4)=0 count(5)=0 opinions(0)=-2 clean()=0 "
            + "clear()=0 burn()=0 undo()=-3 from(0)=-3 from(1)=-3 weighty(0)=0 licence(2, 4)=204 "
            + "part(0)=0 part(1)=1 law(0)=231",
        "status(0)=0 status(1)=0 status(2)=0", "read()=0 evening()=0 mind()=0 seats(-1)=0 wed(40, -1)=0");
    Runs.hold("2 A person: the number",
        "person(0, 0)=0 person(5, 1023)=1 opinions(0)=0 opinions(1)=1023 seen(1, 0)=1023 become(1, 0)=5");
    Runs.hold("2 FULL: 6", "6*person(0, 0) person(0, 0)=-4 person(5, 1023)=-4 count(0)=6 status(2)=2");
    Runs.hold("2 a refused one takes no number", "person(6, 0)=-2 person(0, 1024)=-2 person(0, 9)=0");
    Runs.hold("3 OPINIONS of one: what they were",
        SIX + "thinks(0, 1023)=0 thinks(0, 0)=1023 thinks(5, 1023)=31 opinions(5)=1023 opinions(4)=15 "
            + "thinks(5, 5)=1023 thinks(5, 5)=5 seen(5, 0)=31");
    Runs.hold("4 KIND of one: what it was",
        SIX + "become(0, 5)=0 become(0, 0)=5 become(5, 0)=5 become(5, 5)=0 become(4, 4)=4 become(4, 4)=4");
    Runs.hold("5 WEIGHTY MATTERS: what they were", "weighty(1023)=0 weighty(512)=1023 weighty(0)=512");
    Runs.hold("6 LICENCE: 100 LEAST and MOST as they were",
        "licence(0, 0)=204 licence(20, 20)=0 licence(0, 20)=2020 licence(1, 19)=20 licence(2, 4)=119");
    Runs.hold("7 A pair behind THE CALENDAR: its number",
        TWO + "talk(0, 1)=0 talk(1, 0)=1 talk(0, 1)=2", SIX + "talk(5, 0)=0 talk(0, 5)=1");
    Runs.hold("7 FULL: 8",
        TWO + "8*talk(0, 1) talk(0, 1)=-4 count(1)=8 clean()=8 talk(0, 1)=0 count(1)=1");
    Runs.hold("7 a refused one takes no number", TWO + "talk(0, 0)=-2 talk(0, 2)=-2 talk(0, 1)=0");
    Runs.hold("8 THE CALENDAR is empty: how many it had",
        "clean()=0", TWO + "talk(0, 1) clean()=1 clean()=0 evening()=0 count(2)=1");
  }

  private static void whoDiffers() {
    Runs.hold("12 OPINIONS of one, as bits", TWO + "opinions(0)=0 opinions(1)=1023 opinions(2)=-2");
    Runs.hold("13 MATTERS on which two differ, as bits",
        TWO + "differ(0, 1)=1023 differ(1, 0)=1023 thinks(0, 1023) differ(0, 1)=0 thinks(0, 511) "
            + "differ(0, 1)=512", SIX + "differ(0, 5)=31 differ(5, 4)=16");
    Runs.hold("13 WEIGHTY ones are told once", TWO + "weighty(1023) differ(0, 1)=1023");
    Runs.hold("14 APART",
        TWO + "apart(0, 1)=10 weighty(1023) apart(1, 0)=20 thinks(0, 1023) apart(0, 1)=0",
        SIX + "apart(0, 5)=5 apart(5, 0)=5 apart(4, 5)=1");
    Runs.hold("15 With whom one is LAWFUL, as bits",
        "person(0, 0) lawful(0)=0 licence(0, 20) lawful(0)=0",
        SIX + "lawful(0)=28 lawful(5)=14 licence(0, 20) lawful(0)=62 lawful(5)=31 licence(6, 20) "
            + "lawful(0)=0");
    Runs.hold("16 THREE: how many (0), the first (1; NONE)",
        "three(0)=0 three(1)=-1", SIX + "licence(0, 20) three(0)=20 three(1)=7 licence(20, 20) three(0)=0 "
            + "three(1)=-1 three(2)=-2 three(-1)=-2");
  }

  private static void evenings() {
    Runs.hold("17 how many thought otherwise behind it",
        "evening()=0 count(2)=1", "person(4, 0) person(4, 1) talk(0, 1) evening()=0",
        TWO + "talk(0, 1) evening()=1", "person(2, 0) person(2, 1) talk(0, 1) 20*evening()=2",
        "person(5, 0) person(3, 0) talk(1, 0) evening()=0");
    Runs.hold("17 nobody, though they differ",
        "person(0, 512) person(1, 0) weighty(512) talk(0, 1) evening()=0");
    Runs.hold("18 Two TALK now (no EVENING goes by): how many thought otherwise behind it",
        TWO + "meet(0, 1)=1 count(2)=0 count(3)=1 9*meet(1, 0)=1 meet(0, 1)=0 count(3)=11",
        "person(2, 0) person(2, 1) meet(0, 1)=2 opinions(0)=1 opinions(1)=0", "person(2, 5) person(5, 5) "
            + "meet(0, 1)=0 count(3)=1");
    Runs.hold("18 THE CALENDAR is nothing to it",
        TWO + "person(4, 0) talk(1, 2) meet(0, 1)=1 evening()=0 count(2)=1");
    Runs.hold("19 UNDO: 1. NO: none may be",
        "undo()=-3 evening() undo()=1 undo()=-3 status(1)=2", TWO + "meet(0, 1) undo()=1 opinions(0)=0 undo()=-3");
    Runs.hold("20 behind m EVENINGS (0 .. 200)",
        TWO + "behind(0, 0)=0 behind(0, 200)=0 talk(0, 1) behind(0, 0)=0 behind(0, 1)=1 behind(0, 9)=511 "
            + "behind(0, 10)=1023 behind(0, 200)=1023 behind(0, 201)=-2 behind(0, -1)=-2",
        // CONTRARY over STUBBORN goes on for ever: what it thinks behind 199, 200 is what comes
        "person(3, 5) person(4, 700) talk(0, 1) behind(0, 200)=$a 200*evening() opinions(0)=$a",
        "person(3, 5) person(4, 700) talk(0, 1) behind(0, 199)=$a 199*evening() opinions(0)=$a");
    Runs.hold("20 by the number of the EVENING",
        TWO + "7*talk(1, 0) person(4, 0) talk(1, 2) 7*evening() behind(0, 1)=127 behind(0, 2)=255");
    Runs.hold("21 LASTS. NONE", TWO + "licence(1, 10) lasts(0, 1)=-1 talk(0, 1) lasts(0, 1)=10 lasts(1, 0)=10 "
        + "9*evening() lasts(0, 1)=1 evening() lasts(0, 1)=0");
    Runs.hold("22 COMES AGAIN: t (0), s (1). NONE: nothing does. BAD: -10",
        TWO + "talk(0, 1) again(0)=11 again(1)=10 again(2)=-10 again(-1)=-10 status(0)=2");
    Runs.hold("23 ONE MIND. NONE", TWO + "mind()=-1 talk(0, 1) mind()=10 10*evening() mind()=0");
    Runs.hold("24 STOPS. NONE", TWO + "stops()=-1 talk(0, 1) stops()=0 10*evening() stops()=-1");
  }

  private static void marriages() {
    Runs.hold("25 how many (person = NONE), whom one weds (NONE: single). BAD: -10",
        SIX + "wed(0, -1)=3 wed(0, 6)=-10 wed(0, -2)=-10 wed(-1, -1)=-10 wed(41, -1)=-10 wed(40, 0)=2 wed(40, 5)=3 "
            + "licence(20, 20) wed(0, -1)=0 wed(0, 0)=-1 wed(0, 5)=-1 status(0)=4");
    Runs.hold("26 how many (i = NONE), the i-th of the first row. -5: not so many. BAD: -10",
        "person(4, 0) person(4, 3) dinners(0, 1, 1, -1)=1 dinners(0, 1, 1, 0)=0 dinners(0, 1, 1, 1)=-5 "
            + "dinners(0, 1, 4, 3)=0 dinners(0, 1, 4, 4)=-5 dinners(0, 1, 4, 2147483647)=-5 "
            + "dinners(0, 1, 4, -2)=-10 status(0)=1");
    Runs.hold("26 NONE: no row",
        "person(4, 0) person(4, 0) dinners(0, 1, 1, -1)=0 dinners(0, 1, 1, 0)=-1 dinners(0, 1, 1, 1)=-1 "
            + "dinners(0, 1, 4, 4)=-1 dinners(0, 1, 4, 2147483647)=-1 status(0)=0");
    Runs.hold("26 BAD: alike, too",
        SIX + "dinners(0, 0, 1, -1)=-10 dinners(5, 5, 4, 0)=-10 dinners(6, 0, 1, -1)=-10 "
            + "dinners(0, 6, 1, -1)=-10 status(0)=4");
    Runs.hold("27 FEIGNED, as bits. NONE",
        SIX + "feigned(0, 2)=0 feigned(0, 1)=2 licence(20, 20) feigned(0, 5)=-1 licence(0, 0) "
            + "feigned(0, 5)=31");
    Runs.hold("28 SEEN of one: what it was",
        SIX + "seen(0, 1023)=0 seen(0, 0)=1023 seen(5, 9)=31 seen(5, 31)=9 seen(4, 15)=15 opinions(5)=31");
    Runs.hold("29 SWAYED: how many (0), the first (1; NONE). BAD: -10",
        TWO + "swayed(0)=0 swayed(1)=-1 seen(0, 1) swayed(0)=1 swayed(1)=1 swayed(2)=-10 swayed(-1)=-10");
    Runs.hold("30 how many (place = NONE), who sits at a place. -5: not so many places. BAD: -10",
        "seats(-1)=0 seats(0)=-5 seats(-2)=-10 seats(2147483647)=-5 seats(-2147483648)=-10 status(0)=2",
        SIX + "seats(0)=0 seats(6)=-5 seats(-2)=-10", "person(0, 0) seats(0)=0 seats(1)=-5 seats(-1)=0");
  }

  private static void tellings() {
    Runs.hold("31 A COUPLE told: how many there are",
        "couple(0, true)=1 couple(20, false)=2 couple(0, true)=3 couple(-1, true)=-2 couple(21, true)=-2 "
            + "couple(0, false)=4 count(4)=4");
    Runs.hold("31 FULL: 10",
        "9*couple(5, true) couple(5, true)=10 couple(5, true)=-4 couple(21, true)=-2 count(4)=10 burn()=10 "
            + "couple(5, true)=1");
    Runs.hold("32 No COUPLES: how many there were", "burn()=0 couple(1, true) burn()=1 burn()=0 law(0)=231");
    Runs.hold("33 LAW: how many (0), the narrowest (1; NONE). BAD: -10",
        "law(0)=231 law(1)=0 law(2)=-10 law(-1)=-10 couple(3, true) couple(3, false) law(0)=0 law(1)=-1");
    Runs.hold("33 the LICENCE is nothing to it", "licence(5, 5) couple(20, true) law(1)=2020 licence(2, 4)=505");
  }

  private static void children() {
    Runs.hold("34 The chance is THE FRACTION: 1. BAD: a and b alike, too",
        TWO + "child(0, 0, 1, 0)=-2 child(1, 1, 0, 0)=-2 child(0, 1, 2, 0)=-2 part(1)=1 child(0, 1, 0, 10)=1 "
            + "part(0)=1 part(1)=1024 child(0, 1, 1, 10)=1 part(1)=1024");
    Runs.hold("34 the third one may be one of the two", TWO + "child(0, 1, 0, 0)=1 child(1, 0, 0, 0)=1 part(0)=1");
    Runs.hold("34 k (0 .. 20)",
        TWO + "child(0, 1, 0, 0)=1 part(0)=1 part(1)=1 child(0, 1, 0, 20)=1 part(0)=0 part(1)=1 "
            + "child(0, 1, 0, 21)=-2 child(0, 1, 0, -1)=-2");
    Runs.hold("35 BORN. BAD: alike, too",
        TWO + "born(0, 0, 5)=-2 born(1, 1, 0)=-2 born(0, 1, 0)=232 born(0, 1, 999999)=236 "
            + "born(0, 1, 1000000)=-2 born(0, 1, -1)=-2 count(0)=2");
    Runs.hold("36 THE FRACTION: above (0), below (1)",
        "part(0)=0 part(1)=1 part(2)=-2 part(-1)=-2", TWO + "child(0, 1, 0, 1) part(0)=1023 part(1)=1024 "
            + "child(0, 1, 0, 11) part(0)=0 part(1)=1");
  }

  private static void images() {
    Runs.hold("37 An IMAGE is kept: 1",
        "image(0)=1 image(0)=1 image(1)=1 from(0)=1 from(1)=1", SIX + "image(0) thinks(0, 5) image(0) "
            + "thinks(0, 6) from(0) opinions(0)=5");
    Runs.hold("38 It goes on from an IMAGE: 1. NO: none was kept",
        "from(0)=-3 image(1) from(0)=-3 from(1)=1 image(0) from(0)=1 status(1)=2",
        SIX + "image(0) thinks(0, 9) from(0)=1 opinions(0)=0 thinks(0, 9) from(0)=1 opinions(0)=0");
    Runs.hold("38 it is not changed by what goes on",
        TWO + "talk(0, 1) couple(3, true) image(0) from(0) evening() meet(0, 1) talk(1, 0) couple(4, true) "
            + "weighty(9) licence(0, 9) seen(0, 7) become(0, 0) person(0, 0) from(0) opinions(0)=0 "
            + "count(0)=2 count(1)=1 count(2)=0 count(3)=0 count(4)=1 weighty(0)=0 licence(2, 4)=204 "
            + "seen(0, 0)=0 become(0, 2)=2");
    Runs.hold("38 an EMPTY image", "image(1) 6*person(0, 9) from(1)=1 count(0)=0 person(0, 0)=0");
  }

  private static void status() {
    Runs.hold("39 STATUS: BAD (0), NO (1), FULL (2). -1: another what (counts as BAD)",
        "status(0)=0 status(1)=0 status(2)=0 status(3)=-1 status(-1)=-1 status(0)=2 status(2147483647)=-1 "
            + "status(-2147483648)=-1 status(0)=4 status(1)=0 status(2)=0");
    Runs.hold("39 an answer that is no refusal counts nowhere",
        TWO + "stops() swayed(1) three(1) wed(0, 0) feigned(0, 1) seats(2)=-5 dinners(0, 1, 1, 1) lasts(0, 1) "
            + "mind() again(0) '-' read()=-10 'person 6 a;' read()=-1000 status(0)=0 status(1)=0 status(2)=0");
  }

  private static void count() {
    Runs.hold("40 0 PEOPLE", "count(0)=0 6*person(0, 0) count(0)=6 person(0, 0) count(0)=6");
    Runs.hold("40 1 pairs of THE CALENDAR", TWO + "count(1)=0 8*talk(0, 1) count(1)=8 talk(0, 1) count(1)=8");
    Runs.hold("40 2 EVENINGS gone by",
        "count(2)=0 200*evening() count(2)=200 12*undo()=1 undo()=-3 count(2)=188");
    Runs.hold("40 3 that may be undone",
        TWO + "count(3)=0 11*meet(0, 1) count(3)=11 evening() count(3)=12 evening() count(3)=12 undo() count(3)=11");
    Runs.hold("40 4 COUPLES", "count(4)=0 10*couple(0, true) count(4)=10 couple(0, true) count(4)=10");
    Runs.hold("40 5 bytes of THE TEXT", "count(5)=0 150*type(97) count(5)=150 type(97) count(5)=150");
    Runs.hold("40 BAD", "count(6)=-2 count(-1)=-2 status(0)=2");
  }

  private static void isDigest(String run, long... values) {
    WedApart x = new WedApart();
    Runs.tell("41", x, run);
    long h = 839;
    for (long v : values) h = 31 * h + v;
    Due.is("41 digest behind " + run, x.digest(), h);
  }

  private static void digest() {
    isDigest("", 0, 0, 0, 0, 0, 0, 0, 2, 4, 0, 1);
    isDigest("person(5, 1023) seen(0, 512) ", 1, 0, 0, 0, 0, 0, 0, 2, 4, 5, 1023, 512, 0, 1);
    isDigest("13*evening() ", 0, 0, 13, 12, 0, 0, 0, 2, 4, 0, 1);
    isDigest("couple(0, false) couple(20, true) ", 0, 0, 0, 0, 2, 0, 0, 2, 4, 0, 0, 20, 1, 0, 1);
    isDigest("150*type(127) type(0) ", 0, 0, 0, 0, 0, 150, 0, 2, 4, 0, 1);
    isDigest("weighty(1023) licence(20, 20) ", 0, 0, 0, 0, 0, 0, 1023, 20, 20, 0, 1);
    isDigest(TWO + "2*talk(1, 0) talk(0, 1) clean() talk(0, 1) ",
        2, 1, 0, 0, 0, 0, 0, 2, 4, 2, 0, 0, 4, 1023, 1023, 0, 1, 0, 1);
    isDigest(TWO + "child(0, 1, 0, 5) burn() image(0) opinions(9) ",
        2, 0, 0, 0, 0, 0, 0, 2, 4, 2, 0, 0, 4, 1023, 1023, 319, 512);
    isDigest(SIX + "8*talk(5, 4) talk(0, 1) ", 6, 8, 0, 0, 0, 0, 0, 2, 4, 0, 0, 0, 1, 1, 1, 2, 3, 3,
        3, 7, 7, 4, 15, 15, 5, 31, 31, 5, 4, 5, 4, 5, 4, 5, 4, 5, 4, 5, 4, 5, 4, 5, 4, 0, 1);
    Runs.hold("41 STATUS, IMAGES are none of it", "digest()=$d opinions(0) undo() image(0) status(9) digest()=$d");
  }
}
