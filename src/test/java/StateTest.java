/** Promises 37 to 41: images, status, counts, digest. */
public final class StateTest {
  public static void main(String[] args) {
    images();
    imagesKeep();
    status();
    count();
    digest();
    Due.end("StateTest");
  }

  private static void images() {
    WedApart x = new WedApart();
    Due.is("37 -1", x.image(-1), -2);
    Due.is("37 2", x.image(2), -2);
    Due.is("38 -1", x.from(-1), -2);
    Due.is("38 2", x.from(2), -2);
    Due.is("38 none kept", x.from(0), -3);
    Due.is("38 status NO", x.status(1), 1);
    Due.is("38 status BAD", x.status(0), 4);
    x.person(1, 5);
    Due.is("37 image(0)", x.image(0), 1);
    Due.is("38 the other one is none", x.from(1), -3);
    x.person(2, 6);
    Due.is("37 image(1)", x.image(1), 1);
    Due.is("38 from(0)", x.from(0), 1);
    Due.is("38 one person", x.count(0), 1);
    x.thinks(0, 9);
    Due.is("38 from(0) again", x.from(0), 1);
    Due.is("38 as it was kept", x.opinions(0), 5);
    Due.is("38 from(1)", x.from(1), 1);
    Due.is("38 two persons", x.count(0), 2);
    x.become(1, 0);
    Due.is("37 image(0) anew", x.image(0), 1);
    x.become(1, 3);
    Due.is("38 from(0) then", x.from(0), 1);
    Due.is("38 the kind kept", x.become(1, 4), 0);
    Due.is("38 from(1) is unlike", x.from(1), 1);
    Due.is("38 the kind kept there", x.become(1, 4), 2);
  }

  private static void imagesKeep() {
    WedApart x = new WedApart();
    x.person(2, 5);
    x.person(4, 6);
    x.weighty(2);
    x.licence(1, 3);
    x.talk(0, 1);
    x.seen(0, 7);
    x.couple(3, true);
    x.couple(8, false);
    x.evening();
    x.meet(0, 1);
    long kept = x.digest();
    x.image(0);
    x.undo();
    x.undo();
    x.thinks(1, 1023);
    x.person(0, 0);
    x.weighty(0);
    x.licence(0, 0);
    x.clean();
    x.talk(2, 0);
    x.burn();
    x.couple(1, true);
    x.seen(0, 1);
    x.from(0);
    Due.is("38 all that is kept", x.digest(), kept);
    Due.is("38 two may be undone", x.count(3), 2);
    Due.is("38 undo", x.undo() + x.undo(), 2);
    Due.is("38 undone", x.opinions(0), 5);
    Due.is("38 no evening", x.count(2), 0);
    x.from(0);
    Due.is("38 the image keeps what was undone", x.digest(), kept);
    x.type(65);
    x.child(0, 1, 0, 0);
    Due.is("38 the fraction was another one", x.part(0), 1);
    x.opinions(9);
    x.image(1);
    x.clear();
    x.type(66);
    x.type(67);
    x.child(0, 1, 1, 20);
    x.from(1);
    Due.is("38 the text stays", x.count(5), 2);
    Due.is("38 the fraction stays", x.part(0), 0);
    Due.is("38 status stays", x.status(0), 1);
  }

  private static void status() {
    WedApart x = new WedApart();
    Due.is("39 status(3)", x.status(3), -1);
    Due.is("39 status(-1)", x.status(-1), -1);
    Due.is("39 counts as BAD", x.status(0), 2);
    Due.is("39 -10 is BAD", x.law(5), -10);
    Due.is("39 and counts", x.status(0), 3);
    Due.is("39 -5 is none", x.seats(0), -5);
    Due.is("39 NONE is none", x.swayed(1), -1);
    Due.is("39 BAD", x.status(0), 3);
    x.undo();
    x.from(0);
    Due.is("39 NO", x.status(1), 2);
    for (int i = 0; i < 9; i++) x.person(0, 0);
    Due.is("39 FULL", x.status(2), 3);
    TownTest.type(x, "person 9 a;");
    x.read();
    TownTest.type(x, "person");
    x.read();
    Due.is("39 reading is none", x.status(0), 3);
    Due.is("39 NO then", x.status(1), 2);
    Due.is("39 FULL then", x.status(2), 3);
  }

  private static void count() {
    WedApart x = new WedApart();
    for (int i = 0; i < 6; i++) x.person(0, i);
    for (int i = 0; i < 5; i++) x.talk(i, 5);
    for (int i = 0; i < 4; i++) x.evening();
    x.undo();
    for (int i = 0; i < 2; i++) x.couple(i, true);
    for (int i = 0; i < 9; i++) x.type(i);
    int[] due = {6, 5, 3, 3, 2, 9};
    for (int what = 0; what < 6; what++) Due.is("40 count(" + what + ")", x.count(what), due[what]);
    Due.is("40 count(6)", x.count(6), -2);
    Due.is("40 count(-1)", x.count(-1), -2);
    Due.is("40 status", x.status(0), 2);
  }

  private static long hash(long... values) {
    long h = 839;
    for (long v : values) h = 31 * h + v;
    return h;
  }

  private static void digest() {
    WedApart x = new WedApart();
    Due.is("41 new", x.digest(), hash(0, 0, 0, 0, 0, 0, 0, 2, 4, 0, 1));
    x.person(3, 700);
    x.person(4, 6);
    Due.is("41 people", x.digest(),
        hash(2, 0, 0, 0, 0, 0, 0, 2, 4, 3, 700, 700, 4, 6, 6, 0, 1));
    x.weighty(2);
    x.licence(1, 5);
    x.seen(0, 9);
    x.talk(1, 0);
    x.couple(8, true);
    x.couple(9, false);
    x.meet(0, 1);
    x.undo();
    x.meet(0, 1);
    x.evening();
    x.undo();
    x.type(0);
    x.child(0, 1, 1, 1);
    Due.is("41 all", x.digest(), hash(2, 1, 0, 1, 2, 1, 2, 1, 5, 3, x.opinions(0), 9, 4, 6, 6,
        1, 0, 8, 1, 9, 0, x.part(0), x.part(1)));
    x.opinions(99);
    long before = x.digest();
    x.opinions(99);
    Due.is("41 status is none of it", x.digest(), before);
  }
}
