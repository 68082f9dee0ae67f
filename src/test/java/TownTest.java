/** Promises 1 to 11: a town, told by calls or by a text. */
public final class TownTest {
  public static void main(String[] args) {
    newObject();
    person();
    thinks();
    become();
    weighty();
    licence();
    talkAndClean();
    typeAndClear();
    read();
    readFaults();
    readRefused();
    Due.end("TownTest");
  }

  private static void newObject() {
    WedApart x = new WedApart();
    for (int what = 0; what <= 5; what++) Due.is("1 count(" + what + ")", x.count(what), 0);
    for (int what = 0; what <= 2; what++) Due.is("1 status(" + what + ")", x.status(what), 0);
    Due.is("1 part(0)", x.part(0), 0);
    Due.is("1 part(1)", x.part(1), 1);
    Due.is("1 weighty", x.weighty(0), 0);
    Due.is("1 licence", x.licence(2, 4), 204);
    Due.is("1 opinions(0)", x.opinions(0), -2);
    Due.is("1 undo", x.undo(), -3);
    Due.is("1 from(0)", x.from(0), -3);
    Due.is("1 from(1)", x.from(1), -3);
  }

  private static void person() {
    WedApart x = new WedApart();
    Due.is("2 kind -1", x.person(-1, 0), -2);
    Due.is("2 kind 6", x.person(6, 0), -2);
    Due.is("2 opinions -1", x.person(0, -1), -2);
    Due.is("2 opinions 1024", x.person(0, 1024), -2);
    for (int kind = 0; kind <= 5; kind++) {
      Due.is("2 person " + kind, x.person(kind, kind == 5 ? 1023 : kind), kind);
      Due.is("2 its kind", x.become(kind, kind), kind);
    }
    Due.is("2 opinions(5)", x.opinions(5), 1023);
    Due.is("2 opinions(4)", x.opinions(4), 4);
    Due.is("2 seen as it came", x.seen(4, 0), 4);
    Due.is("2 BAD ahead of FULL", x.person(9, 0), -2);
    Due.is("2 FULL", x.person(0, 0), -4);
    Due.is("2 six", x.count(0), 6);
    Due.is("2 status BAD", x.status(0), 5);
    Due.is("2 status FULL", x.status(2), 1);
    WedApart y = new WedApart();
    y.evening();
    y.evening();
    Due.is("2 refused: still to undo", y.person(7, 7) + y.count(3), 0);
    Due.is("2 one comes", y.person(0, 7), 0);
    Due.is("2 who comes leaves none to undo", y.count(3), 0);
    Due.is("2 undo", y.undo(), -3);
    Due.is("2 evenings stay", y.count(2), 2);
  }

  private static void thinks() {
    WedApart x = new WedApart();
    x.person(0, 5);
    x.person(1, 6);
    x.evening();
    Due.is("3 no such person", x.thinks(2, 0), -2);
    Due.is("3 person -1", x.thinks(-1, 0), -2);
    Due.is("3 opinions 1024", x.thinks(0, 1024), -2);
    Due.is("3 opinions -1", x.thinks(0, -1), -2);
    Due.is("3 refused: still to undo", x.count(3), 1);
    Due.is("3 were", x.thinks(0, 1023), 5);
    Due.is("3 are", x.opinions(0), 1023);
    Due.is("3 none to undo", x.undo(), -3);
    Due.is("3 the other one", x.opinions(1), 6);
    Due.is("3 were again", x.thinks(0, 0), 1023);
    Due.is("3 seen stays", x.seen(0, 1), 5);
  }

  private static void become() {
    WedApart x = new WedApart();
    x.person(0, 5);
    x.person(4, 6);
    x.evening();
    Due.is("4 no such person", x.become(2, 0), -2);
    Due.is("4 person -1", x.become(-1, 0), -2);
    Due.is("4 kind 6", x.become(0, 6), -2);
    Due.is("4 kind -1", x.become(0, -1), -2);
    Due.is("4 was", x.become(1, 5), 4);
    Due.is("4 was then", x.become(1, 2), 5);
    Due.is("4 still to undo", x.undo(), 1);
    Due.is("4 undo leaves kinds", x.become(1, 0), 2);
  }

  private static void weighty() {
    WedApart x = new WedApart();
    Due.is("5 none at first", x.weighty(1023), 0);
    Due.is("5 -1", x.weighty(-1), -2);
    Due.is("5 1024", x.weighty(1024), -2);
    Due.is("5 were", x.weighty(6), 1023);
    Due.is("5 were then", x.weighty(0), 6);
  }

  private static void licence() {
    WedApart x = new WedApart();
    Due.is("6 at first", x.licence(0, 20), 204);
    Due.is("6 was", x.licence(20, 20), 20);
    Due.is("6 was then", x.licence(0, 0), 2020);
    Due.is("6 least -1", x.licence(-1, 3), -2);
    Due.is("6 most 21", x.licence(3, 21), -2);
    Due.is("6 least over most", x.licence(4, 3), -2);
    Due.is("6 least 21", x.licence(21, 21), -2);
    Due.is("6 unchanged", x.licence(1, 2), 0);
  }

  private static void talkAndClean() {
    WedApart x = new WedApart();
    Due.is("8 empty", x.clean(), 0);
    x.person(0, 0);
    x.person(0, 1);
    Due.is("7 no such person", x.talk(0, 2), -2);
    Due.is("7 no such person ahead", x.talk(2, 0), -2);
    Due.is("7 person -1", x.talk(-1, 0), -2);
    Due.is("7 alike", x.talk(1, 1), -2);
    for (int pair = 0; pair < 8; pair++) {
      Due.is("7 pair " + pair, x.talk(pair % 2, 1 - pair % 2), pair);
    }
    Due.is("7 BAD ahead of FULL", x.talk(0, 0), -2);
    Due.is("7 FULL", x.talk(0, 1), -4);
    Due.is("7 eight", x.count(1), 8);
    Due.is("7 status FULL", x.status(2), 1);
    Due.is("8 had", x.clean(), 8);
    Due.is("8 has none", x.count(1), 0);
    Due.is("8 behind it", x.talk(1, 0), 0);
    Due.is("8 had one", x.clean(), 1);
    Due.is("8 nobody talks", x.evening(), 0);
  }

  private static void typeAndClear() {
    WedApart x = new WedApart();
    Due.is("10 empty", x.clear(), 0);
    Due.is("9 -1", x.type(-1), -2);
    Due.is("9 128", x.type(128), -2);
    Due.is("9 0", x.type(0), 1);
    Due.is("9 127", x.type(127), 2);
    for (int i = 3; i <= 150; i++) Due.is("9 byte " + i, x.type('a'), i);
    Due.is("9 BAD ahead of FULL", x.type(200), -2);
    Due.is("9 FULL", x.type('a'), -4);
    Due.is("9 bytes", x.count(5), 150);
    Due.is("10 had", x.clear(), 150);
    Due.is("10 has none", x.count(5), 0);
    Due.is("9 anew", x.type('b'), 1);
  }

  static void type(WedApart x, String text) {
    x.clear();
    for (int i = 0; i < text.length(); i++) x.type(text.charAt(i));
  }

  private static int answer(String text) {
    WedApart x = new WedApart();
    type(x, text);
    return x.read();
  }

  private static void read() {
    Due.is("11 empty", answer(""), 0);
    Due.is("11 blanks", answer("    "), 0);
    WedApart x = new WedApart();
    x.person(3, 77);
    x.person(3, 77);
    x.talk(0, 1);
    x.weighty(9);
    x.evening();
    type(x, "person 2 acj;person0x;  person  05bc ;weighty aj;licence0 20;talk1 0;talk 2 1 ; ");
    Due.is("11 items", x.read(), 7);
    Due.is("11 people", x.count(0), 3);
    Due.is("11 opinions(0)", x.opinions(0), 1 + 4 + 512);
    Due.is("11 opinions(1)", x.opinions(1), 0);
    Due.is("11 opinions(2)", x.opinions(2), 6);
    Due.is("11 seen", x.seen(2, 6), 6);
    Due.is("11 kind of 0", x.become(0, 2), 2);
    Due.is("11 kind of 2", x.become(2, 5), 5);
    Due.is("11 weighty", x.weighty(513), 513);
    Due.is("11 licence", x.licence(0, 20), 20);
    Due.is("11 pairs", x.count(1), 2);
    Due.is("11 none to undo", x.undo(), -3);
    Due.is("11 the text stays", x.count(5), 80);
    Due.is("11 read again", x.read(), 7);
    Due.is("11 three still", x.count(0), 3);
    type(x, " ");
    Due.is("11 read of no items", x.read(), 0);
    Due.is("11 nobody", x.count(0), 0);
    Due.is("11 no pairs", x.count(1), 0);
    Due.is("11 no weighty", x.weighty(0), 0);
    Due.is("11 licence as at first", x.licence(2, 4), 204);
    anew();
    anewAndAnew();
    Due.is("11 two figures", answer("licence 00 20;"), 1);
    Due.is("11 weighty none", answer("weighty x;"), 1);
    Due.is("11 all matters", answer("weighty abcdefghij;"), 1);
    Due.is("11 eighteen items", answer("person0x;person0x;" + "licence0 2;".repeat(12)), 14);
  }

  /** As a new object told by the items alone; what no IMAGE keeps stays. */
  private static void anew() {
    WedApart x = new WedApart();
    x.person(0, 1);
    x.person(0, 0);
    x.couple(3, true);
    x.evening();
    x.image(1);
    x.child(0, 1, 0, 1);
    x.from(0);
    type(x, "person 0 a;");
    Due.is("11 one item", x.read(), 1);
    Due.is("11 evenings", x.count(2), 0);
    Due.is("11 to undo", x.count(3), 0);
    Due.is("11 couples", x.count(4), 0);
    Due.is("11 the fraction stays", 10 * x.part(0) + x.part(1), 12);
    Due.is("11 status stays", x.status(1), 1);
    Due.is("11 images stay", x.from(1), 1);
    Due.is("11 two of the image", x.count(0), 2);
    Due.is("11 couple of the image", x.count(4), 1);
  }

  /** One reading behind the other: nothing of what was ahead of them is left. */
  private static void anewAndAnew() {
    WedApart fresh = new WedApart();
    type(fresh, "person 0 a;person 5 b;talk 1 0;weighty c;licence 1 9;");
    fresh.read();
    WedApart x = new WedApart();
    type(x, "person 0 a;person 5 b;talk 1 0;weighty c;licence 1 9;");
    for (int i = 0; i < 4; i++) {
      Due.is("11 read by turns", x.read(), 5);
      Due.is("11 the town by turns", x.digest(), fresh.digest());
      x.person(2, 1023);
      x.weighty(1);
      x.licence(0, 1);
      x.seen(1, 512);
      x.couple(4, true);
      x.talk(2, 1);
      x.evening();
      x.meet(0, 2);
    }
  }

  private static void readFaults() {
    String[] texts = {
      "person 0 ba;", "person 0 aa;", "person 0 k;", "person 0 xa;", "person 0 ax;", "person 0 xx;",
      "person 0;", "person a;", "person;", ";", "a", "0", "persons 0 a;", "perso n 0 a;", "Person 0 a;",
      "person 000 a;", "person 0 a", "person 0 a  ", "person 0", "person", "  person  ",
      "person 0 a;;", "person 0 a; talk", "licence 1;", "licence 1 2", "licence 1 2 3;", "licence 123;",
      "licence 12;", "licence 1 a;", "licence a 1;", "talk 0 1 a;", "weighty;", "weighty 1;",
      "weighty a b;", "weightya;", "person 0 a\n;", "\tperson 0 a;", "talk 0 1;-", "person -1 a;",
      "talk 1 100;", "licence 1 2x;", "person 0 a 1;", "x;", "person 0 weighty;", "personx 0;",
      "weighty az;"};
    int[] places = {
      9, 9, 9, 9, 9, 9,
      8, 7, 6, 0, 0, 0, 0, 0, 0,
      7, 10, 12, 8, 6, 10,
      11, 16, 9, 11, 12, 8,
      10, 10, 8, 9, 7, 8,
      10, 0, 10, 0, 9, 7,
      7, 11, 11, 0, 9, 0,
      8};
    for (int i = 0; i < texts.length; i++) {
      Due.is("11 read of \"" + texts[i] + "\"", answer(texts[i]), -10 - places[i]);
    }
    WedApart x = new WedApart();
    x.person(1, 3);
    x.evening();
    type(x, "person 6 a; person 0 a");
    long before = x.digest();
    Due.is("11 a FAULT goes ahead of a refusal", x.read(), -10 - 22);
    Due.is("11 a FAULT changes nothing", x.digest(), before);
    Due.is("11 a FAULT is not BAD", x.status(0), 0);
    WedApart full = new WedApart();
    type(full, "weighty x;".repeat(15));
    Due.is("11 150 bytes", full.read(), 15);
    type(full, "weighty x;".repeat(14) + "weighty  x");
    Due.is("11 150 bytes, too early", full.read(), -160);
  }

  private static void readRefused() {
    Due.is("11 kind 6", answer("person 6 a;"), -1000);
    Due.is("11 kind 99", answer("weighty x;person 99 a;"), -1001);
    Due.is("11 the seventh", answer("person0x;".repeat(7)), -1006);
    Due.is("11 least over most", answer("licence 2 1;"), -1000);
    Due.is("11 most 21", answer("licence 2 21;"), -1000);
    Due.is("11 talk ahead of people", answer("talk 0 1;person0x;person0x;"), -1000);
    Due.is("11 talk alike", answer("person0x;talk 0 0;"), -1001);
    Due.is("11 talk with none", answer("person0x;person0x;talk0 2;"), -1002);
    Due.is("11 the ninth pair", answer("person0x;person0x;" + "talk0 1;".repeat(9)), -1010);
    Due.is("11 the first one counts", answer("person0x;talk 0 9;person 7x;"), -1001);
    WedApart x = new WedApart();
    x.person(1, 3);
    x.evening();
    x.couple(4, true);
    type(x, "weighty abc;licence 1 1;person 0 a;person 6 a;");
    long before = x.digest();
    Due.is("11 refused", x.read(), -1003);
    Due.is("11 nothing changes", x.digest(), before);
    Due.is("11 ITEMS are not counted BAD", x.status(0), 0);
    Due.is("11 undo is as it was", x.undo(), 1);
  }
}
