/** Promises 34 to 36: children, and the fraction. */
public final class ChildrenTest {
  public static void main(String[] args) {
    child();
    childBad();
    born();
    part();
    Due.end("ChildrenTest");
  }

  private static void chance(WedApart x, String call, int answer, int above, int below) {
    Due.is("34 " + call, answer, 1);
    Due.is("36 above of " + call, x.part(0), above);
    Due.is("36 below of " + call, x.part(1), below);
  }

  private static void child() {
    WedApart x = new WedApart();
    x.person(0, 0);
    x.person(0, 3);
    x.person(0, 1023);
    chance(x, "at least 0", x.child(0, 1, 2, 0), 1, 1);
    chance(x, "at least 8", x.child(0, 1, 2, 8), 1, 1);
    chance(x, "at least 9", x.child(0, 1, 2, 9), 3, 4);
    chance(x, "at least 10", x.child(1, 0, 2, 10), 1, 4);
    chance(x, "at least 11", x.child(0, 1, 2, 11), 0, 1);
    chance(x, "from a parent", x.child(0, 1, 0, 1), 3, 4);
    chance(x, "from the other parent", x.child(0, 1, 1, 2), 1, 4);
    chance(x, "all open", x.child(0, 2, 0, 10), 1, 1024);
    chance(x, "all open, half", x.child(0, 2, 1, 5), 319, 512);
    x.weighty(1023);
    chance(x, "all weighty", x.child(0, 2, 0, 20), 1, 1024);
    chance(x, "all weighty, an odd one", x.child(0, 2, 0, 19), 1, 1024);
    x.weighty(1);
    chance(x, "one weighty", x.child(0, 1, 0, 2), 1, 2);
    x.thinks(1, 0);
    chance(x, "parents think alike", x.child(0, 1, 2, 11), 1, 1);
    chance(x, "parents think alike, no", x.child(0, 1, 2, 12), 0, 1);
  }

  private static void childBad() {
    WedApart x = new WedApart();
    x.person(0, 0);
    x.person(0, 3);
    x.child(0, 1, 0, 1);
    Due.is("34 alike", x.child(1, 1, 0, 0), -2);
    Due.is("34 no such parent", x.child(2, 1, 0, 0), -2);
    Due.is("34 parent -1", x.child(0, -1, 0, 0), -2);
    Due.is("34 no such third", x.child(0, 1, 2, 0), -2);
    Due.is("34 third -1", x.child(0, 1, -1, 0), -2);
    Due.is("34 k -1", x.child(0, 1, 0, -1), -2);
    Due.is("34 k 21", x.child(0, 1, 0, 21), -2);
    Due.is("36 unchanged above", x.part(0), 3);
    Due.is("36 unchanged below", x.part(1), 4);
    Due.is("34 k 20", x.child(0, 1, 0, 20), 1);
    Due.is("34 status", x.status(0), 7);
  }

  private static void born() {
    WedApart x = new WedApart();
    x.person(0, 0);
    x.person(0, 1023);
    x.person(0, 9);
    // 12345 / 65536 is even, the next X is 1406932606 and 21468 is even
    Due.is("35 seed 0", x.born(0, 1, 0) & 3, 0);
    long x0 = 999999;
    int due = 0;
    for (int m = 0; m < 10; m++) {
      x0 = (x0 * 1103515245L + 12345) & 0x7fffffffL;
      due |= (int) (x0 >> 16 & 1) << m;
    }
    Due.is("35 seed 999999", x.born(0, 1, 999999), due);
    Due.is("35 the other one first", x.born(1, 0, 999999), 1023 - due);
    // 0 and 2 differ on matters 0 and 3 alone: a step for each of these two
    Due.is("35 matters where they differ", x.born(0, 2, 999999), (due & 1) + (due & 2) * 4);
    Due.is("35 seed -1", x.born(0, 1, -1), -2);
    Due.is("35 seed 1000000", x.born(0, 1, 1000000), -2);
    Due.is("35 alike", x.born(1, 1, 5), -2);
    Due.is("35 no such person", x.born(1, 3, 5), -2);
    Due.is("35 person -1", x.born(-1, 1, 5), -2);
    x.thinks(0, 1023);
    Due.is("35 think alike", x.born(0, 1, 5), 1023);
    Due.is("35 nobody comes", x.count(0), 3);
  }

  private static void part() {
    WedApart x = new WedApart();
    Due.is("36 above at first", x.part(0), 0);
    Due.is("36 below at first", x.part(1), 1);
    Due.is("36 what 2", x.part(2), -2);
    Due.is("36 what -1", x.part(-1), -2);
    Due.is("36 status", x.status(0), 2);
  }
}
