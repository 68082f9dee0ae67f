/** Promises 12 to 16: who differs. */
public final class DifferTest {
  public static void main(String[] args) {
    two();
    lawful();
    three();
    Due.end("DifferTest");
  }

  private static void two() {
    WedApart x = new WedApart();
    x.person(0, 0);
    x.person(1, 1023);
    x.person(2, 5);
    Due.is("12 opinions(1)", x.opinions(1), 1023);
    Due.is("12 no such person", x.opinions(3), -2);
    Due.is("12 person -1", x.opinions(-1), -2);
    Due.is("13 differ(0, 1)", x.differ(0, 1), 1023);
    Due.is("13 differ(2, 1)", x.differ(2, 1), 1018);
    Due.is("13 alike", x.differ(1, 1), -2);
    Due.is("13 no such person", x.differ(1, 3), -2);
    Due.is("13 person -1", x.differ(-1, 1), -2);
    Due.is("14 apart(0, 1)", x.apart(0, 1), 10);
    Due.is("14 apart(2, 1)", x.apart(2, 1), 8);
    x.weighty(1023);
    Due.is("14 all weighty", x.apart(1, 0), 20);
    x.weighty(1 + 2);
    Due.is("14 weighty ones twice", x.apart(2, 0), 3);
    Due.is("14 weighty ones they differ on", x.apart(2, 1), 9);
    Due.is("13 weighty ones once", x.differ(2, 0), 5);
    Due.is("14 alike", x.apart(2, 2), -2);
    Due.is("14 no such person", x.apart(3, 0), -2);
    Due.is("14 person -1", x.apart(0, -1), -2);
    Due.is("13 status", x.status(0), 8);
  }

  private static void lawful() {
    WedApart x = new WedApart();
    x.person(0, 0);
    Due.is("15 alone", x.lawful(0), 0);
    x.person(0, 1);
    x.person(0, 3);
    x.person(0, 15);
    x.person(0, 31);
    Due.is("15 of 0: two and four apart", x.lawful(0), 4 + 8);
    Due.is("15 of 1", x.lawful(1), 8 + 16);
    Due.is("15 of 4", x.lawful(4), 2 + 4);
    x.licence(0, 20);
    Due.is("15 never oneself", x.lawful(2), 31 - 4);
    x.licence(5, 5);
    Due.is("15 just five", x.lawful(0), 16);
    x.weighty(1);
    Due.is("15 weighty ones twice", x.lawful(0), 8);
    Due.is("15 no such person", x.lawful(5), -2);
    Due.is("15 person -1", x.lawful(-1), -2);
  }

  private static void three() {
    WedApart x = new WedApart();
    Due.is("16 nobody", x.three(0), 0);
    Due.is("16 nobody, first", x.three(1), -1);
    Due.is("16 what 2", x.three(2), -2);
    Due.is("16 what -1", x.three(-1), -2);
    x.person(0, 0);
    x.person(0, 3);
    x.person(0, 7);
    Due.is("16 one pair is not", x.three(0), 0);
    x.person(0, 12);
    Due.is("16 0 and 1 or 2, with 3", x.three(0), 2);
    Due.is("16 three(1)", x.three(1), 1 + 2 + 8);
    x.licence(0, 20);
    Due.is("16 of four", x.three(0), 4);
    Due.is("16 the first of four", x.three(1), 7);
    leastNumber();
  }

  /** 0, 1, 5 comes ahead of 2, 3, 4 as a row, but its bits are the greater number. */
  private static void leastNumber() {
    WedApart x = new WedApart();
    x.licence(0, 1);
    int[] opinions = {0, 0, 1023, 1023, 1023, 0};
    for (int each : opinions) x.person(0, each);
    Due.is("16 two sets", x.three(0), 2);
    Due.is("16 the least number", x.three(1), 4 + 8 + 16);
  }
}
