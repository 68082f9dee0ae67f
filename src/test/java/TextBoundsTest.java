/** The boundary cases of THE TOWN's TEXT (promises 9 to 11), a test for each sentence. */
public final class TextBoundsTest {
  public static void main(String[] args) {
    bytes();
    items();
    words();
    numbers();
    blanks();
    noTokens();
    tooEarly();
    noFault();
    faultAhead();
    toldAnew();
    refused();
    Due.end("TextBoundsTest");
  }

  /** A FAULT at a place; the town stays, and STATUS. */
  private static void fault(String sentence, String text, int place) {
    Runs.hold("11 " + sentence + ", \"" + text + "\"", "person(1, 3) person(2, 9) talk(0, 1) weighty(4) "
        + "evening() couple(4, true) '" + text + "' digest()=$d read()=" + (-10 - place)
        + " digest()=$d undo()=1 status(0)=0 status(1)=0 status(2)=0");
  }

  /** No FAULT and no refusal: how many ITEMS. */
  private static void reads(String sentence, String text, int items) {
    Runs.hold("11 " + sentence + ", \"" + text + "\"", "'" + text + "' read()=" + items
        + " status(0)=0 read()=" + items);
  }

  private static void bytes() {
    Runs.hold("9 A byte (0 .. 127)",
        "type(-1)=-2 type(128)=-2 count(5)=0 type(0)=1 type(127)=2 type(32)=3 count(5)=3");
    Runs.hold("9 THE TEXT (150 bytes at most)",
        "149*type(32) type(32)=150 type(32)=-4 count(5)=150 clear()=150 type(32)=1 count(5)=1");
    Runs.hold("10 THE TEXT is empty: how many it had",
        "clear()=0 clear()=0 type(65)=1 clear()=1 clear()=0 count(5)=0");
    reads("150 bytes", "weighty x;".repeat(15), 15);
    fault("150 bytes, and the ; has no place", "weighty x;".repeat(14) + "weighty  x", 150);
    reads("150 blanks", " ".repeat(150), 0);
    fault("150 bytes of a word", "a".repeat(150), 0);
    fault("the last byte of 150", " ".repeat(149) + "a", 149);
    fault("the 150th byte begins none", "weighty x;".repeat(14) + "weighty x.", 149);
    Runs.hold("11 what is behind a clear is not read",
        "'person 0 a;person 1 b;' clear() read()=0 count(0)=0 'weighty b;' read()=1 count(0)=0",
        "'person 0 a;person 1 b;' '          ' read()=0");
  }

  private static void items() {
    reads("person KIND and one word of OPINIONS", "person 0 a;", 1);
    reads("weighty and such a word", "weighty abcdefghij;", 1);
    reads("licence l m", "licence 0 20;", 1);
    reads("talk a b", "person0x;person0x;talk 0 1;", 3);
    fault("each ended by ;", "person 0 a person 0 a;", 11);
    fault("each ended by ;, a word", "weighty a weighty a;", 10);
    fault("each ended by ;, a number", "licence 1 2 3;", 12);
    fault("one ; alone", ";", 0);
    fault("two ;", "weighty a;;", 10);
    fault("an ITEM is none without its word", "0 a;", 0);
    fault("one word of OPINIONS", "person 0 a b;", 11);
    fault("person without a KIND", "person a;", 7);
    fault("person without OPINIONS", "person 0;", 8);
    fault("person alone", "person;", 6);
    fault("weighty alone", "weighty;", 7);
    fault("weighty and a number", "weighty 1;", 8);
    fault("licence with one number", "licence 1;", 9);
    fault("licence alone", "licence;", 7);
    fault("licence and a word", "licence x 1;", 8);
    fault("talk with one number", "talk 1;", 6);
    fault("talk and a word behind", "talk 1 x;", 7);
    fault("talk alone", "talk;", 4);
  }

  private static void words() {
    Runs.hold("11 letters a .. j, each a MATTER it is for",
        "'person 0 a;person 0 j;person 0 abcdefghij;person 0 aj;' read()=4 opinions(0)=1 "
            + "opinions(1)=512 opinions(2)=1023 opinions(3)=513");
    Runs.hold("11 or x (none)", "'person 0 x;weighty x;' read()=2 opinions(0)=0 weighty(0)=0");
    fault("k is no MATTER", "person 0 k;", 9);
    fault("z is no MATTER", "weighty z;", 8);
    fault("k behind j", "person 0 jk;", 9);
    fault("z behind a", "weighty az;", 8);
    fault("rising", "person 0 ba;", 9);
    fault("rising: not alike", "person 0 aa;", 9);
    fault("rising at its end", "person 0 abcdefghijj;", 9);
    fault("rising, of weighty", "weighty ja;", 8);
    fault("x with a letter ahead", "person 0 ax;", 9);
    fault("x with a letter behind", "person 0 xa;", 9);
    fault("two x", "weighty xx;", 8);
    fault("a word that is none", "people 0 a;", 0);
    fault("a word cut", "perso 0 a;", 0);
    fault("a word longer by one", "persons 0 a;", 0);
    fault("a word that is none, of letters", "weightya;", 0);
    fault("a word that is none, talks", "talks 0 1;", 0);
    fault("a word that is none, licences", "licences 0 1;", 0);
    fault("no such word: of OPINIONS, where an ITEM begins", "abc 0 a;", 0);
    fault("no such word: x, where an ITEM begins", "x;", 0);
    fault("no such word: an ITEM's, where OPINIONS stand", "person 0 talk;", 9);
    fault("no such word: an ITEM's, where a number stands", "person person;", 7);
    fault("no such word: an ITEM's, where the ; stands", "talk 0 1 talk", 9);
    fault("no such word: the same one twice", "weighty weighty x;", 8);
  }

  private static void numbers() {
    Runs.hold("11 figures (1 or 2 are one number)",
        "'person 5 x;person 05 x;person 00 x;licence 09 10;talk 00 01;' read()=5 become(0, 0)=5 "
            + "become(1, 0)=5 become(2, 0)=0 licence(0, 0)=910 count(1)=1");
    fault("a run of three figures (at its first one)", "person 005 x;", 7);
    fault("a run of three figures, the second number", "licence 1 002;", 10);
    fault("a run of four figures", "talk 0000 1;", 5);
    fault("a run of three figures where a word stands", "person 0 123;", 9);
    fault("a run of three figures where an ITEM begins", "123;", 0);
    fault("a run of three figures where the ; stands", "weighty a 123;", 10);
    fault("two figures are one number, no two", "licence 12;", 10);
    fault("a sign is no figure", "person -1 a;", 7);
    Runs.hold("11 two figures that are too many for a KIND", "'person 99 x;' read()=-1000",
        "'licence 0 99;' read()=-1000", "'person 0 x;talk 0 99;' read()=-1001");
  }

  private static void blanks() {
    reads("blanks ahead of, between, behind", "   person   0   ab   ;   licence   1  2  ;   ", 2);
    reads("needed only between two words, two numbers", "person0a;weighty a;licence0 20;", 3);
    reads("none behind a ;", "weighty a;weighty b;", 2);
    Runs.hold("11 none between a number and a word", "'person3abc;' read()=1 opinions(0)=7 become(0, 3)=3",
        "'person 12x;' read()=-1000");
    fault("needed between two words", "weightyx;", 0);
    fault("needed between two numbers", "person0x;licence 11;", 19);
    fault("a blank cuts a word", "per son 0 a;", 0);
    fault("a blank cuts OPINIONS", "person 0 a b;", 11);
    fault("a blank cuts a number", "person 0 x;licence 1 2 0;", 23);
  }

  /** Bytes next to those that begin TOKENS, and far from them. */
  private static void noTokens() {
    for (int c : new int[] {0, 9, 10, 13, 31, 33, 47, 58, 60, 64, 65, 90, 96, 123, 127}) {
      String typed = "type(" + c + ") ";
      Runs.hold("11 a byte that begins none, ahead: " + c, typed + "read()=-10");
      Runs.hold("11 a byte that begins none, behind blanks: " + c, "'   ' " + typed + "read()=-13");
      Runs.hold("11 a byte that begins none, behind a word: " + c, "'person' " + typed + "read()=-16");
      Runs.hold("11 a byte that begins none, behind a number: " + c, "'person 0' " + typed + "read()=-18");
      Runs.hold("11 a byte that begins none, behind OPINIONS: " + c, "'weighty a' " + typed + "read()=-19");
      Runs.hold("11 a byte that begins none, behind a ;: " + c, "'weighty a;' " + typed + "read()=-20");
    }
  }

  private static void tooEarly() {
    String item = "person 0 a";
    int[] ends = {6, 7, 8, 9, 10};
    for (int end : ends) fault("THE TEXT's length, if it ends too early", item.substring(0, end), end);
    fault("too early, behind blanks", "person 0 a   ", 13);
    fault("too early, behind an ITEM", "weighty a;weighty", 17);
    fault("too early, licence", "licence", 7);
    fault("too early, licence 1", "licence 1", 9);
    fault("too early, licence 1 2", "licence 1 2", 11);
    fault("too early, talk 0 ", "talk 0 ", 7);
    fault("too early, weighty x", "weighty x", 9);
  }

  private static void noFault() {
    Runs.hold("11 one that is empty has none", "read()=0 count(0)=0 status(0)=0",
        "person(0, 5) person(0, 6) talk(0, 1) weighty(3) licence(0, 1) read()=0 count(0)=0 count(1)=0 "
            + "weighty(0)=0 licence(2, 4)=204");
    Runs.hold("11 one that has blanks alone has none", "' ' read()=0", "'     ' read()=0",
        "person(0, 5) '  ' read()=0 count(0)=0 count(5)=2");
  }

  private static void faultAhead() {
    fault("the first TOKEN of two that can not stand there", "person 0 ba;person 0 ba;", 9);
    fault("the first TOKEN, in the second ITEM", "person 0 ab;person 0 ba;", 21);
    fault("a FAULT behind a refused ITEM", "person 9 a;person 0", 19);
    fault("a FAULT behind two refused ITEMS", "talk 0 0;licence 2 1;-", 21);
  }

  private static void toldAnew() {
    Runs.hold("11 told anew by these alone",
        "person(3, 9) person(4, 8) talk(0, 1) weighty(7) licence(5, 6) seen(0, 1) couple(7, true) "
            + "3*evening() 'person 2 ab;' read()=1 count(0)=1 count(1)=0 count(2)=0 count(3)=0 count(4)=0 "
            + "count(5)=12 opinions(0)=3 seen(0, 0)=3 become(0, 0)=2 weighty(0)=0 licence(2, 4)=204 "
            + "undo()=-3");
    String again = "digest()=$d swayed(0)=1 lasts(0, 1)=0 6*person(3, 1023) talk(4, 5) talk(1, 2) weighty(7) "
        + "licence(5, 6) seen(0, 1) couple(7, true) 2*evening() meet(0, 1) read()=2 ";
    Runs.hold("11 told anew, one reading behind the other",
        "'person 0 a;person 4 a;' read()=2 " + again.repeat(4) + "digest()=$d swayed(0)=1 undo()=-3",
        "evening() 'weighty a;' read()=1 undo()=-3 evening() read()=1 undo()=-3 read()=1 undo()=-3");
    Runs.hold("11 in their order",
        "'weighty a;weighty b;licence 1 1;licence 3 9;person 0 a;person 1 b;' read()=6 weighty(0)=2 "
            + "licence(2, 4)=309 opinions(0)=1 opinions(1)=2",
        "'talk 0 1;person0x;person0x;' read()=-1000", "'person0x;person0x;talk 0 1;' read()=3",
        "'person0x;talk 1 0;person0x;' read()=-1001");
    Runs.hold("11 what no IMAGE keeps stays",
        "person(0, 0) person(0, 1) child(0, 1, 0, 1) image(0) undo() 'weighty a;' read()=1 part(0)=1 "
            + "part(1)=2 status(1)=1 count(5)=10 from(0)=1 count(0)=2");
    Runs.hold("11 people by a text are full at six, pairs at eight",
        "'" + "person0x;".repeat(6) + "' read()=6 person(0, 0)=-4",
        "'person0x;person0x;" + "talk0 1;".repeat(8) + "' read()=10 talk(0, 1)=-4");
  }

  private static void refused() {
    String told = "person(1, 3) person(2, 9) talk(0, 1) weighty(4) evening() couple(4, true) image(1) ";
    String[] texts = {"person 6 a;", "weighty a;person 6 a;", "person0x;".repeat(7), "licence 1 0;",
        "licence 0 21;", "licence 21 21;", "talk 0 1;", "person0x;talk 0 1;", "person0x;talk 0 0;",
        "person0x;person0x;talk 2 0;", "person0x;person0x;talk 0 2;",
        "person0x;person0x;" + "talk0 1;".repeat(9), "person0x;person 8 x;person 9 x;",
        "person 10 a;", "licence 20 0;"};
    int[] items = {0, 1, 6, 0, 0, 0, 0, 1, 1, 2, 2, 10, 1, 0, 0};
    for (int i = 0; i < texts.length; i++) {
      Runs.hold("11 the first ITEM (0 on) that is refused: nothing changes, \"" + texts[i] + "\"",
          told + "'" + texts[i] + "' digest()=$d read()=" + (-1000 - items[i]) + " digest()=$d read()="
              + (-1000 - items[i]) + " undo()=1 from(1)=1 status(0)=0 status(1)=0 status(2)=0");
    }
    Runs.hold("11 told by a text that is right, behind one that is refused",
        "'person 0 a;weighty abc;licence 0 0;person 6 a;' read()=-1003 'person 1 b;' read()=1 count(0)=1 "
            + "opinions(0)=2 weighty(0)=0 licence(2, 4)=204",
        "'person 1 b;' read()=1 digest()=$d 'person6a;' digest()=$e read()=-1000 digest()=$e 'weighty '"
            + " digest()=$f read()=-18 digest()=$f 'person 1 b;' digest()=$d read()=1 digest()=$d");
  }
}
