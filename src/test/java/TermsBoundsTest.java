/**
 * The boundary cases that "What it is" and "Terms" name, a test for each sentence, which stands
 * ahead of its runs. KINDS: 0 PLAIN, 1 PROUD, 2 MEEK, 3 CONTRARY, 4 STUBBORN, 5 FICKLE.
 */
public final class TermsBoundsTest {
  public static void main(String[] args) {
    people();
    licence();
    matterOfTalk();
    kinds();
    wrapsOfKinds();
    calendar();
    changesNothing();
    lasts();
    again();
    oneMind();
    stops();
    marriages();
    lastingMarriages();
    dinners();
    noDinners();
    feigned();
    swayed();
    seats();
    three();
    law();
    child();
    born();
    undo();
    images();
    status();
    fraction();
    Due.end("TermsBoundsTest");
  }

  // ---- 1

  private static void people() {
    Runs.hold("PEOPLE 0 .. 5, as they come",
        "opinions(0)=-2 person(0, 1)=0 opinions(1)=-2 person(0, 2)=1 person(0, 3)=2 person(0, 4)=3 "
            + "person(0, 5)=4 opinions(5)=-2 person(0, 6)=5 opinions(5)=6 opinions(6)=-2 "
            + "opinions(-1)=-2 person(0, 7)=-4 count(0)=6");
    Runs.hold("a KIND (0 .. 5)",
        "person(-1, 0)=-2 person(6, 0)=-2 count(0)=0 person(0, 0)=0 person(5, 0)=1 become(0, 5)=0 "
            + "become(1, 0)=5 become(0, 6)=-2 become(0, -1)=-2 become(0, 0)=5");
    Runs.hold("OPINIONS on MATTERS 0 .. 9 (a set: bits; for or against)",
        "person(0, 0)=0 person(0, 1)=1 person(0, 512)=2 person(0, 1023)=3 person(0, 1024)=-2 "
            + "person(0, -1)=-2 differ(0, 1)=1 differ(0, 2)=512 differ(3, 2)=511 opinions(3)=1023");
    Runs.hold("WEIGHTY MATTERS (a set; none at first)",
        "weighty(0)=0", "weighty(1023)=0 weighty(1024)=-2 weighty(-1)=-2 weighty(0)=1023");
    Runs.hold("WEIGHTY MATTERS count twice",
        "person(0, 0) person(0, 1023) apart(0, 1)=10 weighty(1) apart(0, 1)=11 weighty(512) "
            + "apart(0, 1)=11 weighty(1023) apart(0, 1)=20",
        "person(0, 0) person(0, 1) weighty(1022) apart(0, 1)=1 weighty(1) apart(1, 0)=2");
    Runs.hold("APART: on how many MATTERS they differ (none: 0)",
        "person(0, 77) person(3, 77) apart(0, 1)=0 weighty(1023) apart(0, 1)=0 differ(0, 1)=0");
  }

  private static void licence() {
    Runs.hold("LICENCE: 2 and 4 at first",
        "licence(0, 20)=204",
        "person(0, 0) person(0, 1) person(0, 3) person(0, 7) person(0, 15) person(0, 31) "
            + "lawful(0)=28");
    Runs.hold("LICENCE: 0 .. 20",
        "licence(0, 20)=204 licence(0, 0)=20 licence(20, 20)=0 licence(-1, 20)=-2 licence(0, 21)=-2 "
            + "licence(21, 21)=-2 licence(-1, -1)=-2 licence(1, 1)=2020");
    Runs.hold("LICENCE: LEAST no more than MOST",
        "licence(3, 3)=204 licence(4, 3)=-2 licence(20, 0)=-2 licence(1, 0)=-2 licence(0, 1)=303");
    Runs.hold("from LEAST to MOST APART: LAWFUL are two who are so far APART",
        "person(0, 0) person(0, 3) person(0, 7) person(0, 15) licence(3, 3) lawful(0)=4",
        "person(0, 5) person(0, 5) person(0, 4) licence(0, 0) lawful(0)=2 licence(1, 20) lawful(0)=4",
        "person(0, 0) person(0, 1023) weighty(1023) licence(20, 20) lawful(0)=2 weighty(1022) "
            + "lawful(0)=0 licence(0, 19) lawful(1)=1 weighty(1023) lawful(1)=0");
  }

  private static void matterOfTalk() {
    Runs.hold("the MATTER is the least one on which they differ",
        "person(2, 0) person(4, 1023) meet(0, 1)=1 opinions(0)=1",
        "person(2, 0) person(4, 768) meet(0, 1)=1 opinions(0)=256",
        "person(2, 1023) person(4, 511) meet(0, 1)=1 opinions(0)=511");
    Runs.hold("not WEIGHTY ones ahead of WEIGHTY ones",
        "person(2, 0) person(4, 1023) weighty(511) meet(0, 1)=1 opinions(0)=512",
        "person(2, 0) person(4, 1023) weighty(510) meet(0, 1)=1 opinions(0)=1",
        "person(2, 0) person(4, 1023) weighty(1023) meet(0, 1)=1 opinions(0)=1",
        "person(2, 512) person(4, 1023) weighty(511) meet(0, 1)=1 opinions(0)=513");
    Runs.hold("(none: nothing changes)",
        "person(3, 9) person(3, 9) meet(0, 1)=0 opinions(0)=9 opinions(1)=9",
        "person(5, 0) person(3, 0) talk(0, 1) evening()=0 opinions(1)=0 count(2)=1");
    Runs.hold("Each does by what both thought ahead of it",
        "person(2, 1) person(2, 2) meet(0, 1)=2 opinions(0)=0 opinions(1)=3",
        "person(5, 0) person(5, 3) meet(1, 0)=2 opinions(0)=3 opinions(1)=0",
        "person(5, 512) person(5, 1) weighty(1) meet(0, 1)=2 opinions(0)=1 opinions(1)=512",
        "person(3, 0) person(5, 3) meet(0, 1)=2 opinions(0)=2 opinions(1)=0");
  }

  private static void kinds() {
    Runs.hold("0 PLAIN: what the other one does, if that one is of a lesser number",
        "person(4, 3) person(0, 0) meet(0, 1)=1 opinions(1)=1 meet(1, 0)=1 opinions(1)=3",
        "person(4, 1) person(0, 0) weighty(1) meet(0, 1)=1 opinions(1)=1");
    Runs.hold("0 PLAIN: else what it did",
        "person(0, 0) person(4, 3) meet(0, 1)=0 meet(1, 0)=0 opinions(0)=0",
        "person(0, 0) person(0, 3) meet(1, 0)=1 opinions(0)=0 opinions(1)=2");
    Runs.hold("1 PROUD: nothing changes, if the MATTER is WEIGHTY; else as PLAIN",
        "person(4, 1) person(1, 0) weighty(1) meet(0, 1)=0 weighty(0) meet(0, 1)=1 opinions(1)=1",
        "person(4, 3) person(1, 0) weighty(1) meet(0, 1)=1 opinions(1)=2 meet(0, 1)=0",
        "person(1, 0) person(4, 1) meet(0, 1)=0 opinions(0)=0");
    Runs.hold("2 MEEK: of the MATTER what the other one does",
        "person(2, 0) person(4, 1) weighty(1) meet(0, 1)=1 opinions(0)=1",
        "person(4, 0) person(2, 1) meet(0, 1)=1 opinions(1)=0");
    Runs.hold("3 CONTRARY: as PROUD, and then of the MATTER behind it the other thing than it did",
        "person(4, 1) person(3, 0) meet(0, 1)=1 opinions(1)=3",
        "person(4, 3) person(3, 2) meet(0, 1)=1 opinions(1)=1",
        "person(3, 0) person(4, 1) meet(0, 1)=1 opinions(0)=2",
        "person(4, 1) person(3, 0) weighty(1) meet(0, 1)=1 opinions(1)=2",
        "person(4, 1) person(3, 0) weighty(2) meet(0, 1)=1 opinions(1)=3");
    Runs.hold("4 STUBBORN: nothing changes",
        "person(4, 0) person(4, 1023) meet(0, 1)=0 meet(1, 0)=0 opinions(0)=0 opinions(1)=1023");
    Runs.hold("5 FICKLE: as MEEK, and of the MATTER behind it what the other one does, too",
        "person(5, 0) person(4, 7) meet(0, 1)=1 opinions(0)=3",
        "person(5, 6) person(4, 1) meet(0, 1)=1 opinions(0)=5",
        "person(5, 2) person(4, 3) meet(0, 1)=1 opinions(0)=3",
        "person(5, 0) person(4, 3) weighty(2) meet(0, 1)=1 opinions(0)=3",
        "person(5, 0) person(4, 3) weighty(3) meet(0, 1)=1 opinions(0)=3");
  }

  private static void wrapsOfKinds() {
    Runs.hold("3 CONTRARY (0 behind 9)",
        "person(4, 512) person(3, 0) meet(0, 1)=1 opinions(1)=513",
        "person(4, 513) person(3, 1) meet(0, 1)=1 opinions(1)=512",
        "person(3, 0) person(4, 512) meet(0, 1)=1 opinions(0)=1",
        "person(4, 256) person(3, 0) meet(0, 1)=1 opinions(1)=768",
        "person(4, 512) person(3, 0) weighty(512) meet(0, 1)=1 opinions(1)=1");
    Runs.hold("5 FICKLE (0 behind 9)",
        "person(5, 0) person(4, 513) weighty(1) meet(0, 1)=1 opinions(0)=513",
        "person(5, 513) person(4, 0) weighty(1) meet(0, 1)=1 opinions(0)=0",
        "person(5, 1) person(4, 513) meet(0, 1)=1 opinions(0)=513",
        "person(5, 0) person(4, 768) meet(0, 1)=1 opinions(0)=768");
  }

  private static void calendar() {
    String two = "person(2, 0) person(4, 1023) person(4, 0) ";
    Runs.hold("EVENINGS have numbers, from 0 on",
        two + "talk(0, 1) talk(1, 2) count(2)=0 evening()=1 count(2)=1 evening()=0 evening()=1 "
            + "opinions(0)=3");
    Runs.hold("up to 8 pairs of PEOPLE, as they come",
        two + "talk(0, 1)=0 talk(0, 1)=1 talk(1, 0)=2 talk(2, 1)=3 talk(1, 2)=4 talk(0, 2)=5 "
            + "talk(2, 0)=6 talk(0, 1)=7 count(1)=8 talk(0, 1)=-4 count(1)=8");
    Runs.hold("on EVENING e the pair e, left over by how many there are",
        two + "talk(0, 1) 10*evening()=1 opinions(0)=1023",
        two + "7*talk(1, 2) talk(0, 1)=7 7*evening()=0 evening()=1 opinions(0)=1 7*evening()=0 "
            + "evening()=1 opinions(0)=3",
        two + "talk(0, 1) 7*talk(1, 2) evening()=1 7*evening()=0 evening()=1 opinions(0)=3",
        two + "talk(1, 2) 3*evening()=0 talk(0, 1) evening()=1 evening()=0",
        two + "talk(1, 2) 3*evening()=0 clean() talk(0, 1) talk(1, 2) evening()=0 evening()=1");
    Runs.hold("(none: nobody)",
        "evening()=0", two + "evening()=0 opinions(0)=0 talk(0, 1) clean() evening()=0 count(2)=2");
  }

  // ---- 2

  private static void changesNothing() {
    Runs.hold("What is below changes nothing",
        "person(3, 9) person(2, 6) person(5, 3) person(0, 60) weighty(5) licence(1, 6) talk(0, 1) "
            + "talk(1, 2) talk(2, 3) couple(3, true) seen(0, 8) evening() meet(0, 3) digest()=$d "
            + "behind(0, 200) lasts(0, 1) again(0) again(1) mind() stops() wed(40, -1) wed(40, 3) "
            + "dinners(0, 1, 4, -1) dinners(2, 1, 4, 3) feigned(0, 1) swayed(0) swayed(1) seats(-1) "
            + "seats(3) three(0) three(1) law(0) law(1) born(0, 1, 5) differ(0, 1) lawful(0) "
            + "digest()=$d become(0, 3)=3 become(1, 2)=2 become(2, 5)=5 become(3, 0)=0",
        "person(2, 0) person(4, 7) talk(0, 1) mind()=3 stops()=0 become(0, 2)=2 become(1, 4)=4");
  }

  private static void lasts() {
    String two = "person(2, 0) person(4, 15) talk(0, 1) ";
    Runs.hold("LASTS: parted at the first EVENING behind which they are not LAWFUL",
        two + "lasts(0, 1)=3 licence(4, 4) lasts(0, 1)=1 licence(0, 4) lasts(0, 1)=-1",
        "person(2, 0) person(2, 3) licence(2, 2) talk(0, 1) lasts(1, 0)=-1",
        // not LAWFUL behind 1, LAWFUL again behind 2
        "person(3, 0) person(4, 3) licence(2, 2) talk(0, 1) behind(0, 1)=2 behind(0, 2)=0 "
            + "lasts(0, 1)=1");
    Runs.hold("LASTS: the EVENINGS to come",
        two + "evening() lasts(0, 1)=2 evening() lasts(0, 1)=1 evening() lasts(0, 1)=0");
    Runs.hold("LASTS (0: they are not LAWFUL now)",
        "person(0, 0) person(0, 1) lasts(0, 1)=0", two + "licence(5, 20) lasts(0, 1)=0",
        two + "licence(0, 3) lasts(0, 1)=0");
    Runs.hold("LASTS (none)",
        "person(2, 0) person(4, 15) lasts(0, 1)=-1", "person(4, 0) person(4, 15) talk(0, 1) lasts(0, 1)=-1");
    String eight = "person(2, 0) person(4, 1023) person(4, 1023) ";
    Runs.hold("LASTS, behind the calendar gone round",
        eight + "licence(1, 10) 7*talk(1, 2) talk(0, 1) lasts(0, 1)=80",
        eight + "licence(1, 10) talk(0, 1) 7*talk(1, 2) lasts(0, 1)=73");
    // the town of EveningsTest.farLasts, told here with the 8th EVENING to come
    String far = "person(3, 314) person(0, 879) person(3, 494) person(3, 848) person(3, 48) "
        + "licence(2, 10) talk(1, 4) talk(4, 3) talk(0, 4) talk(4, 1) talk(0, 2) talk(3, 2) "
        + "talk(3, 0) talk(1, 3) 7*evening() thinks(0, 314) thinks(1, 879) thinks(2, 494) "
        + "thinks(3, 848) thinks(4, 48) ";
    Runs.hold("LASTS (up to 200)",
        far + "lasts(1, 3)=-1 evening() lasts(1, 3)=200 evening() lasts(1, 3)=199",
        far + "200*evening() lasts(1, 3)=1 evening() lasts(1, 3)=0");
  }

  private static void again() {
    Runs.hold("COMES AGAIN: the least t (1 ..), s less than t, the least",
        "again(0)=1 again(1)=0", "person(3, 5) again(0)=1 again(1)=0",
        "person(4, 0) person(4, 1) talk(0, 1) again(0)=1 again(1)=0",
        "person(2, 0) person(4, 1) talk(0, 1) again(0)=2 again(1)=1",
        "person(2, 0) person(4, 1023) talk(0, 1) again(0)=11 again(1)=10 9*evening() again(0)=2 "
            + "again(1)=1 evening() again(0)=1 again(1)=0");
    Runs.hold("COMES AGAIN (t and s left over alike by THE CALENDAR's length)",
        "person(4, 0) person(4, 1) 8*talk(0, 1) again(0)=8 again(1)=0",
        "person(4, 0) person(4, 1) 7*talk(0, 1) 3*evening() again(0)=7 again(1)=0",
        "person(2, 0) person(4, 1) talk(0, 1) talk(0, 1) again(0)=3 again(1)=1 clean() again(0)=1 "
            + "again(1)=0",
        // of one mind behind 1, so behind 1 and 8 EVENINGS as behind 1
        "person(2, 0) person(4, 1) 8*talk(0, 1) again(0)=9 again(1)=1");
    String at200 = "person(1, 399) person(3, 264) person(3, 503) person(1, 923) talk(1, 0) talk(3, 2) "
        + "talk(1, 0) talk(2, 0) talk(1, 2) talk(3, 2) ";
    String at201 = "person(1, 482) person(2, 28) person(2, 894) person(3, 729) talk(3, 2) talk(1, 3) "
        + "talk(2, 0) ";
    Runs.hold("COMES AGAIN (1 .. 200)",
        at200 + "again(0)=200 again(1)=152 evening() again(0)=199 again(1)=151",
        at201 + "again(0)=-1 again(1)=-1 evening() again(0)=200 again(1)=62 evening() again(0)=199 "
            + "again(1)=61",
        at201 + "63*evening() opinions(0)=$a opinions(1)=$b opinions(2)=$c opinions(3)=$d "
            + "138*evening() opinions(0)=$a opinions(1)=$b opinions(2)=$c opinions(3)=$d again(1)=0 "
            + "again(0)=138");
  }

  private static void oneMind() {
    Runs.hold("ONE MIND: the least t (0 ..)",
        "mind()=0", "person(3, 5) mind()=0", "person(3, 5) person(4, 5) mind()=0",
        "6*person(2, 1023) mind()=0",
        "person(2, 0) person(4, 1) talk(0, 1) mind()=1 evening() mind()=0",
        // the last one alone is of another mind
        "5*person(4, 0) person(4, 512) mind()=-1 thinks(5, 0) mind()=0");
    Runs.hold("ONE MIND; none",
        "person(2, 0) person(4, 1) mind()=-1", "person(2, 0) person(2, 1) talk(0, 1) mind()=-1");
    String at200 = "person(4, 321) person(3, 858) person(1, 821) talk(2, 0) talk(0, 1) talk(0, 1) "
        + "talk(1, 0) talk(1, 2) talk(2, 1) ";
    Runs.hold("ONE MIND (0 .. 200)",
        at200 + "mind()=200 evening() mind()=199",
        at200 + "licence(0, 0) 199*evening() lawful(0)=4 mind()=1 evening() lawful(0)=6 mind()=0",
        "person(3, 283) person(3, 855) person(3, 703) person(1, 794) talk(0, 3) talk(2, 1) "
            + "talk(1, 3) talk(0, 1) talk(3, 2) talk(3, 1) talk(2, 0) talk(2, 3) 7*evening() "
            + "thinks(0, 283) thinks(1, 855) thinks(2, 703) thinks(3, 794) mind()=-1 stops()=-1 "
            + "evening() mind()=200");
  }

  private static void stops() {
    Runs.hold("STOPS: whom one must make STUBBORN so that there is no ONE MIND",
        "person(2, 0) person(4, 7) talk(0, 1) stops()=0", "person(4, 7) person(2, 0) talk(0, 1) stops()=1");
    Runs.hold("STOPS: of like ones the least",
        "person(4, 1) person(0, 0) person(0, 0) talk(0, 1) talk(0, 2) mind()=2 stops()=1",
        "person(4, 1) 5*person(2, 0) talk(0, 5) talk(0, 4) talk(0, 3) talk(0, 2) talk(0, 1) stops()=1");
    Runs.hold("STOPS; none: nobody does",
        "stops()=-1", "person(2, 5) stops()=-1", "person(2, 5) person(5, 5) talk(0, 1) stops()=-1",
        // whoever of them is STUBBORN, the other one takes what that one thinks
        "person(0, 0) person(2, 1) talk(0, 1) talk(1, 0) mind()=1 stops()=1 become(0, 2) mind()=-1");
    Runs.hold("STOPS; none: there is none anyway",
        "person(2, 0) person(4, 7) stops()=-1", "person(2, 0) person(2, 7) talk(0, 1) mind()=-1 "
            + "become(0, 4) mind()=3 become(0, 2) stops()=-1");
    // 0 as it is: of one mind behind 89; STUBBORN: behind 201, which is none
    String far = "person(3, 486) person(3, 406) person(1, 261) person(2, 293) talk(1, 0) talk(0, 1) "
        + "talk(2, 1) talk(2, 1) talk(3, 0) talk(1, 2) talk(3, 1) ";
    // 0 as it is: behind 192; STUBBORN: behind 200, which is one
    String near = "person(3, 614) person(3, 239) person(2, 686) person(3, 375) person(5, 196) "
        + "talk(1, 3) talk(2, 3) talk(0, 1) talk(2, 4) talk(3, 1) talk(2, 4) talk(1, 3) talk(2, 0) ";
    Runs.hold("STOPS: ONE MIND behind 200 is one, behind 201 none",
        far + "mind()=89 stops()=0 become(0, 4) mind()=-1 evening() mind()=200",
        near + "mind()=192 stops()=1 become(0, 4) mind()=200 become(0, 3) become(1, 4) mind()=-1");
  }

  private static void marriages() {
    Runs.hold("MARRIAGES: pairs, nobody in two",
        "wed(0, -1)=0", "person(0, 0) wed(0, -1)=0 wed(0, 0)=-1",
        "person(0, 0) person(0, 3) wed(0, -1)=1 wed(0, 0)=1 wed(0, 1)=0",
        // 0 is LAWFUL with each other one, and nobody else is
        "person(0, 0) person(0, 3) person(0, 12) person(0, 48) licence(2, 2) lawful(0)=14 "
            + "wed(0, -1)=1 wed(0, 0)=1 wed(0, 2)=-1 wed(0, 3)=-1");
    Runs.hold("MARRIAGES: as many as can be",
        "6*person(0, 0) licence(0, 0) wed(0, -1)=3 wed(0, 0)=1 wed(0, 2)=3 wed(0, 5)=4",
        // a row of four, each LAWFUL with the next one: 2, 0, 1, 3
        "person(0, 1) person(0, 3) person(0, 0) person(0, 7) licence(1, 1) lawful(0)=6 lawful(1)=9 "
            + "wed(0, -1)=2 wed(0, 0)=2 wed(0, 1)=3");
    Runs.hold("MARRIAGES: of like ones the first row: single ahead of the least other one",
        "3*person(0, 0) licence(0, 0) wed(0, -1)=1 wed(0, 0)=-1 wed(0, 1)=2 wed(0, 2)=1",
        "5*person(0, 0) licence(0, 0) wed(0, -1)=2 wed(0, 0)=-1 wed(0, 1)=2 wed(0, 4)=3",
        "person(0, 0) person(0, 1) person(0, 3) person(0, 7) person(0, 15) person(0, 31) wed(0, -1)=3 "
            + "wed(0, 0)=2 wed(0, 1)=4 wed(0, 2)=0 wed(0, 3)=5 wed(0, 4)=1 wed(0, 5)=3",
        "person(0, 2) person(0, 17) person(0, 1) person(0, 10) person(0, 21) person(0, 26) licence(4, 5) "
            + "wed(0, -1)=3 wed(0, 0)=4 wed(0, 1)=3 wed(0, 2)=5 wed(0, 3)=1 wed(0, 4)=0 wed(0, 5)=2");
    Runs.hold("MARRIAGES; NONE: single",
        "person(0, 0) person(0, 0) wed(0, -1)=0 wed(0, 0)=-1 wed(0, 1)=-1");
  }

  private static void lastingMarriages() {
    Runs.hold("MARRIAGES: all LAWFUL now",
        "person(2, 0) person(4, 31) talk(0, 1) wed(0, -1)=0 wed(1, -1)=0 evening() wed(0, -1)=1");
    Runs.hold("MARRIAGES: and behind each of the next m EVENINGS",
        "person(2, 0) person(4, 15) talk(0, 1) wed(2, -1)=1 wed(2, 0)=1 wed(3, -1)=0 wed(3, 0)=-1",
        // not LAWFUL behind 1, LAWFUL again behind 2
        "person(3, 0) person(4, 3) licence(2, 2) talk(0, 1) wed(0, -1)=1 wed(2, -1)=0");
    String three = "person(2, 0) person(4, 1023) person(4, 1023) ";
    Runs.hold("MARRIAGES, m (0 .. 40)",
        three + "licence(6, 10) 7*talk(1, 2) talk(0, 1) lasts(0, 1)=40 wed(39, -1)=1 wed(39, 0)=1 "
            + "wed(39, 1)=0 wed(40, -1)=0 wed(40, 0)=-1 wed(41, -1)=-10 wed(-1, -1)=-10",
        three + "licence(5, 10) talk(0, 1) 7*talk(1, 2) lasts(0, 1)=41 wed(40, -1)=1 wed(40, 1)=0 "
            + "wed(41, 0)=-10");
  }

  private static void dinners() {
    String six = "person(4, 0) person(2, 3) 3*person(4, 2) person(4, 3) ";
    Runs.hold("DINNERS: 1 and 6 times which of them, 0 the first, and the third's number",
        six + "dinners(0, 1, 1, -1)=1 dinners(0, 1, 1, 0)=12 dinners(1, 0, 1, 0)=6",
        six + "dinners(0, 1, 4, -1)=1 dinners(0, 1, 4, 0)=12 dinners(0, 1, 4, 3)=12",
        "person(4, 3) person(2, 3) person(4, 0) dinners(1, 2, 1, -1)=1 dinners(1, 2, 1, 0)=1 "
            + "dinners(2, 1, 1, 0)=7");
    Runs.hold("DINNERS (0 nobody)",
        "person(4, 0) person(4, 3) dinners(0, 1, 4, -1)=1 dinners(0, 1, 4, 0)=0 dinners(0, 1, 4, 3)=0",
        "6*person(4, 0) licence(0, 0) dinners(0, 5, 1, -1)=9 dinners(0, 5, 4, -1)=6561 "
            + "dinners(0, 5, 4, 3)=0 dinners(3, 2, 2, -1)=81");
    Runs.hold("DINNERS for m EVENINGS (1 .. 4)",
        "person(4, 0) person(4, 3) dinners(0, 1, 0, -1)=-10 dinners(0, 1, 1, -1)=1 "
            + "dinners(0, 1, 4, -1)=1 dinners(0, 1, 5, -1)=-10 dinners(0, 1, -1, 0)=-10");
    Runs.hold("DINNERS: on each they TALK with one another, then one of them with a third",
        // one TALK with one another makes them alike; then 1 takes what 2 thinks
        "person(4, 0) person(5, 1) person(4, 3) dinners(0, 1, 1, -1)=1 dinners(0, 1, 1, 0)=9",
        // behind the TALK with one another they are one APART, and nobody mends it
        "person(4, 0) person(2, 3) person(4, 2) dinners(0, 1, 1, -1)=0");
    Runs.hold("DINNERS (THE CALENDAR rests)",
        "person(2, 0) person(4, 15) person(4, 0) licence(3, 4) 8*talk(0, 1) dinners(0, 1, 1, 0)=0 "
            + "evening() dinners(0, 1, 1, 0)=3 clean() dinners(0, 1, 1, 0)=3");
    Runs.hold("DINNERS: rising",
        "person(4, 0) person(4, 3) person(4, 0) person(4, 0) dinners(0, 1, 1, 0)=0",
        // 1 keeps two APART by a TALK with 2 or with 3, who think alike
        "person(4, 0) person(2, 3) person(4, 3) person(4, 3) dinners(0, 1, 1, -1)=2 "
            + "dinners(0, 1, 1, 0)=9 dinners(1, 0, 1, 0)=3");
  }

  private static void noDinners() {
    Runs.hold("DINNERS: a first one that leaves no row is none of the first row",
        "person(1, 4) person(5, 29) person(1, 25) dinners(0, 1, 1, 0)=0 dinners(0, 1, 2, 0)=3 "
            + "dinners(0, 1, 3, 0)=3 dinners(0, 1, 4, 0)=9 dinners(0, 1, 4, 1)=0 dinners(0, 1, 4, 2)=9 "
            + "dinners(0, 1, 4, 3)=9 dinners(0, 1, 1, -1)=3 dinners(0, 1, 2, -1)=4 dinners(0, 1, 4, -1)=1",
        "person(3, 16) person(2, 11) person(2, 29) dinners(0, 1, 1, 0)=0 dinners(0, 1, 4, 0)=9 "
            + "dinners(0, 1, 4, 1)=3 dinners(0, 1, 4, 2)=0 dinners(0, 1, 4, 3)=0 dinners(0, 1, 4, -1)=2");
    Runs.hold("DINNERS: each EVENING goes on from the one ahead of it",
        // three, two, one APART by the TALKS with one another; 2 gives one back on the second
        "person(4, 0) person(2, 7) person(4, 7) dinners(0, 1, 2, -1)=5 dinners(0, 1, 2, 0)=0 "
            + "dinners(0, 1, 2, 1)=9 dinners(0, 1, 1, 0)=0");
    String parted = "person(2, 0) person(4, 3) ";
    Runs.hold("DINNERS: LAWFUL behind each of them: no row",
        parted + "dinners(0, 1, 1, -1)=0 dinners(0, 1, 1, 0)=-1 dinners(0, 1, 4, 3)=-1",
        // LAWFUL behind the second, not behind the first
        "person(3, 0) person(4, 3) licence(2, 2) dinners(0, 1, 1, -1)=0 dinners(0, 1, 2, -1)=0");
    Runs.hold("DINNERS: how they are now is nothing to it",
        "person(2, 0) person(4, 31) lawful(0)=0 dinners(0, 1, 1, -1)=1 dinners(0, 1, 3, -1)=1 "
            + "dinners(0, 1, 4, -1)=0");
  }

  private static void feigned() {
    Runs.hold("FEIGNED: the fewest MATTERS (none)",
        "person(0, 0) person(0, 3) feigned(0, 1)=0 licence(1, 1) feigned(0, 1)=1");
    Runs.hold("FEIGNED (bits; of like ones the least)",
        "person(0, 0) person(0, 0) feigned(0, 1)=3 licence(10, 10) feigned(0, 1)=1023 weighty(512) "
            + "licence(2, 4) feigned(0, 1)=512 weighty(768) feigned(0, 1)=256 licence(1, 1) "
            + "feigned(0, 1)=1",
        "person(0, 1023) person(0, 0) feigned(0, 1)=63 feigned(1, 0)=63 licence(0, 0) "
            + "feigned(0, 1)=1023");
    Runs.hold("FEIGNED; none",
        "person(0, 0) person(0, 0) licence(11, 20) feigned(0, 1)=-1 weighty(1) feigned(0, 1)=1023",
        "person(0, 0) person(0, 1) weighty(1023) licence(1, 1) feigned(0, 1)=-1 licence(20, 20) "
            + "feigned(1, 0)=1022 licence(19, 19) feigned(1, 0)=-1");
  }

  private static void swayed() {
    Runs.hold("SWAYED (SEEN; as it came at first)",
        "person(4, 5) person(4, 6) seen(0, 5)=5 seen(1, 6)=6 swayed(0)=1 swayed(1)=1",
        "person(2, 0) person(4, 1) swayed(0)=0 swayed(1)=-1 seen(0, 1)=0 swayed(0)=1 meet(0, 1) "
            + "seen(0, 1)=1 swayed(0)=1 thinks(0, 0) seen(0, 9)=1");
    Runs.hold("SWAYED: pairs; none",
        "swayed(0)=0 swayed(1)=-1", "person(0, 5) swayed(0)=0 swayed(1)=-1");
    Runs.hold("SWAYED: how many; the first (10 the lesser and the other one)",
        "6*person(0, 9) swayed(0)=15 swayed(1)=1",
        "person(2, 1) person(2, 2) person(2, 4) person(2, 8) person(2, 16) person(2, 32) swayed(0)=0 "
            + "seen(4, 0)=16 seen(5, 48)=32 swayed(0)=1 swayed(1)=45");
  }

  private static void seats() {
    Runs.hold("SEATS: all sit, person 0 at place 0",
        "seats(-1)=0 seats(0)=-5", "person(0, 0) seats(-1)=0 seats(0)=0 seats(1)=-5",
        "person(4, 0) person(4, 3) seats(-1)=1 seats(0)=0 seats(1)=1 seats(2)=-5",
        "6*person(4, 0) seats(-1)=0 licence(0, 0) seats(-1)=15 seats(5)=5 seats(6)=-5");
    Runs.hold("SEATS: neighbours TALK, .., the last and 0",
        // 0 takes what 2 thinks in the last TALK of the first order
        "person(2, 0) person(4, 0) person(4, 3) licence(1, 1) seats(-1)=2 seats(1)=1 seats(2)=2",
        // two: they TALK as places 0 and 1, then as the last and 0
        "person(2, 0) person(4, 15) seats(-1)=1 thinks(1, 7) seats(-1)=0");
    Runs.hold("SEATS: nobody sits twice, each TALK behind the other",
        "person(1, 19) person(5, 19) person(0, 23) person(4, 2) person(1, 4) licence(1, 2) seats(-1)=9 "
            + "seats(0)=0 seats(1)=2 seats(2)=4 seats(3)=1 seats(4)=3 seats(5)=-5",
        "person(1, 16) person(1, 4) person(2, 30) person(1, 25) person(0, 22) licence(1, 2) seats(-1)=9 "
            + "seats(1)=4 seats(2)=2 seats(3)=1 seats(4)=3");
    Runs.hold("SEATS: of like ones the first",
        "4*person(4, 5) seats(1)=1 seats(2)=2 seats(3)=3",
        "person(4, 1) person(2, 0) person(4, 2) person(4, 2) licence(0, 0) seats(-1)=3 seats(1)=2 "
            + "seats(2)=1 seats(3)=3");
  }

  private static void three() {
    Runs.hold("THREE; none",
        "three(0)=0 three(1)=-1", "person(0, 0) person(0, 0) licence(0, 20) three(0)=0 three(1)=-1",
        "person(0, 0) person(0, 3) person(0, 1) three(0)=0 three(1)=-1");
    Runs.hold("THREE: how many, the first (bits, the least number)",
        "3*person(0, 0) licence(0, 0) three(0)=1 three(1)=7",
        "person(0, 0) person(0, 3) person(0, 7) person(0, 12) three(0)=2 three(1)=11",
        "6*person(0, 0) licence(0, 0) three(0)=20 three(1)=7",
        "person(0, 1) person(0, 2) person(0, 4) 3*person(0, 8) licence(0, 0) three(0)=1 three(1)=56",
        "person(0, 1) person(0, 1) person(0, 2) person(0, 2) person(0, 2) person(0, 1) licence(0, 0) "
            + "three(0)=2 three(1)=28");
  }

  private static void law() {
    String ten = "10*couple(0, true) ";
    Runs.hold("LAW: of COUPLES told (10 at most)",
        "law(0)=231 law(1)=0", ten + "couple(0, true)=-4 law(0)=21 law(1)=0",
        "couple(0, false) couple(1, false) couple(2, false) couple(3, false) couple(4, false) "
            + "couple(5, false) couple(6, false) couple(7, false) couple(8, false) law(0)=78 "
            + "couple(9, false)=10 law(0)=66 law(1)=1010");
    Runs.hold("LAW (APART 0 .. 20, whether they were let wed)",
        "couple(0, true) law(0)=21 law(1)=0", "couple(20, true) law(0)=21 law(1)=2020",
        "couple(0, true) couple(20, true) law(0)=1 law(1)=20", "couple(0, false) law(0)=210 law(1)=101",
        "couple(20, false) law(0)=210 law(1)=0", "couple(0, false) couple(20, true) law(0)=20 law(1)=2020");
    Runs.hold("LAW: the narrowest (fewest from LEAST to MOST; of like ones the least LEAST)",
        "couple(5, true) couple(9, true) law(0)=72 law(1)=509",
        "couple(0, false) couple(1, false) couple(3, false) law(0)=154 law(1)=202");
    Runs.hold("LAW; none",
        "couple(5, true) couple(5, false) law(0)=0 law(1)=-1",
        "couple(4, true) couple(6, true) couple(5, false) law(0)=0 law(1)=-1");
  }

  // ---- 3

  private static void child() {
    String three = "person(0, 0) person(0, 1023) person(0, 1023) ";
    Runs.hold("A CHILD of two thinks as both where they do not differ",
        "person(0, 5) person(4, 5) person(0, 4) child(0, 1, 2, 1) part(0)=1 part(1)=1 "
            + "child(0, 1, 2, 2) part(0)=0 part(1)=1 child(0, 1, 0, 0) part(0)=1 child(0, 1, 1, 1) "
            + "part(0)=0");
    Runs.hold("else by lot as one of them (each one half, apart)",
        three + "child(0, 1, 2, 1) part(0)=1023 part(1)=1024 child(0, 1, 2, 5) part(0)=319 part(1)=512 "
            + "child(0, 1, 2, 10) part(0)=1 part(1)=1024");
    Runs.hold("at least k APART (0 .. 20) from a third",
        three + "child(0, 1, 2, 0)=1 part(0)=1 part(1)=1 child(0, 1, 2, 11)=1 part(0)=0 part(1)=1 "
            + "child(0, 1, 2, 20)=1 child(0, 1, 2, 21)=-2 child(0, 1, 2, -1)=-2",
        three + "weighty(1023) child(0, 1, 2, 20) part(0)=1 part(1)=1024 child(0, 1, 2, 19) part(0)=1 "
            + "part(1)=1024 child(0, 1, 2, 18) part(0)=11 part(1)=1024");
  }

  private static void born() {
    String two = "person(0, 0) person(0, 1023) ";
    Runs.hold("BORN by a SEED (0 .. 999999)",
        two + "born(0, 1, 0)=232 born(0, 1, 1)=188 born(0, 1, 999999)=236 born(0, 1, -1)=-2 "
            + "born(0, 1, 1000000)=-2");
    Runs.hold("0 as the first one, 1 as the other one",
        two + "born(1, 0, 0)=791 born(1, 0, 999999)=787");
    Runs.hold("for each MATTER from 0 on where they differ X becomes",
        // from SEED 0 the fourth X is the first that is odd: of bits 3, or 9 where they differ
        // on 0, 4, 8, 9 alone
        "person(0, 0) person(0, 15) person(0, 785) born(0, 1, 0)=8 born(0, 2, 0)=512",
        "person(0, 1) person(0, 31) born(0, 1, 0)=17 born(1, 0, 0)=15",
        "person(0, 5) person(3, 5) born(0, 1, 0)=5 born(0, 1, 999999)=5");
  }

  private static void undo() {
    Runs.hold("UNDO (12 at most)",
        "12*evening() count(3)=12 12*undo()=1 undo()=-3 count(2)=0",
        "13*evening() count(3)=12 12*undo()=1 undo()=-3 count(2)=1",
        "person(2, 0) person(4, 1023) 13*meet(0, 1) count(3)=12 11*undo()=1 opinions(0)=3 undo()=1 "
            + "opinions(0)=1 undo()=-3",
        "13*evening() undo() evening() count(3)=12 evening() count(3)=12 12*undo()=1 undo()=-3 "
            + "count(2)=2");
    Runs.hold("UNDO: the last EVENING or TALK",
        "person(2, 0) person(4, 7) talk(0, 1) evening() meet(0, 1) evening() opinions(0)=7 undo()=1 "
            + "opinions(0)=3 count(2)=1 undo()=1 opinions(0)=1 count(2)=1 undo()=1 opinions(0)=0 "
            + "count(2)=0 undo()=-3",
        "person(4, 0) person(4, 7) meet(0, 1)=0 count(3)=1 undo()=1");
    Runs.hold("PEOPLE who come leave none",
        "evening() person(0, 0) count(3)=0 undo()=-3 count(2)=1",
        "6*person(0, 0) evening() person(0, 0)=-4 person(6, 0)=-2 count(3)=1 undo()=1");
    Runs.hold("OPINIONS told leave none",
        "person(0, 5) evening() thinks(0, 5) count(3)=0 undo()=-3",
        "person(0, 5) evening() thinks(1, 5)=-2 thinks(0, 1024)=-2 undo()=1");
    Runs.hold("UNDO: what else is told leaves them",
        "person(0, 5) person(0, 6) evening() become(0, 3) weighty(5) licence(0, 0) talk(0, 1) clean() "
            + "seen(0, 1) couple(5, true) burn() type(9) clear() image(0) child(0, 1, 0, 0) count(3)=1");
  }

  private static void images() {
    Runs.hold("IMAGES 0, 1",
        "image(-1)=-2 image(0)=1 image(1)=1 image(2)=-2 from(-1)=-2 from(0)=1 from(1)=1 from(2)=-2");
    Runs.hold("IMAGES keep all but them, THE TEXT, THE FRACTION and STATUS",
        "person(2, 0) person(4, 7) talk(0, 1) weighty(6) licence(1, 3) seen(0, 9) couple(4, false) "
            + "evening() digest()=$d image(1) from(1) digest()=$d meet(0, 1) become(0, 0) clean() "
            + "talk(1, 0) weighty(0) licence(0, 0) seen(0, 1) burn() couple(9, true) person(0, 0) "
            + "from(1)=1 digest()=$d",
        "image(0) person(0, 1) image(1) from(0)=1 count(0)=0 from(1)=1 count(0)=1",
        "image(0) 'talk' from(0)=1 count(5)=4",
        "person(0, 0) person(0, 1) image(0) child(0, 1, 0, 1) from(0)=1 part(0)=1 part(1)=2",
        "image(0) undo()=-3 opinions(0)=-2 from(0)=1 status(0)=1 status(1)=1");
    Runs.hold("EVENINGS that may be undone they keep",
        "12*evening() image(0) 12*undo() count(3)=0 from(0)=1 count(3)=12 12*undo()=1 undo()=-3 "
            + "count(2)=0 from(0)=1 count(3)=12 count(2)=12",
        "image(0) evening() from(0)=1 count(3)=0 undo()=-3",
        "person(2, 0) person(4, 7) 2*evening() meet(0, 1) image(0) 3*undo()=1 3*meet(0, 1) from(0)=1 "
            + "opinions(0)=1 undo()=1 opinions(0)=0 count(2)=2 undo()=1 count(2)=1 opinions(0)=0 undo()=1 "
            + "count(2)=0 undo()=-3",
        "evening() image(0) person(0, 0) from(0)=1 undo()=1 count(0)=0 count(2)=0");
  }

  private static void status() {
    Runs.hold("STATUS: how many calls were refused as BAD, NO, FULL",
        "status(0)=0 status(1)=0 status(2)=0 opinions(0)=-2 undo()=-3 from(0)=-3 6*person(0, 0) "
            + "3*person(0, 0)=-4 status(0)=1 status(1)=2 status(2)=3");
    Runs.hold("STATUS (each answer told so below is such a one)",
        "again(2)=-10 law(-1)=-10 swayed(2)=-10 wed(0, 0)=-10 seats(-2)=-10 dinners(0, 1, 1, 0)=-10 "
            + "status(0)=6",
        "seats(0)=-5 three(1)=-1 swayed(1)=-1 stops()=-1 law(1)=0 status(0)=0 status(1)=0 status(2)=0");
    Runs.hold("STATUS (ITEMS are none)",
        "'person 9 x;' read()=-1000 'licence 2 1;' read()=-1000 'talk 0 1;' read()=-1000 "
            + "'person0x;person0x;person0x;person0x;person0x;person0x;person0x;' read()=-1006 '-' "
            + "read()=-10 status(0)=0 status(1)=0 status(2)=0");
  }

  private static void fraction() {
    Runs.hold("THE FRACTION is 0 by 1 at first; lowest terms, below above 0",
        "part(0)=0 part(1)=1",
        "person(0, 0) person(0, 15) child(0, 1, 0, 2) part(0)=11 part(1)=16 child(0, 1, 0, 0) part(0)=1 "
            + "part(1)=1 child(0, 1, 0, 5) part(0)=0 part(1)=1");
    Runs.hold("Refused, the first of: BAD, NO, FULL",
        "6*person(0, 0) person(6, 0)=-2 8*talk(0, 1) talk(0, 0)=-2 10*couple(0, true) "
            + "couple(21, true)=-2 from(2)=-2 150*type(32) type(128)=-2 status(1)=0 status(2)=0 "
            + "person(0, 0)=-4 talk(0, 1)=-4 couple(20, true)=-4 type(127)=-4 from(1)=-3 status(0)=5 "
            + "status(1)=1 status(2)=4");
  }
}
