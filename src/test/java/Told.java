/** What the tests share: answers that are due, and short ways to tell things to a post. */
abstract class Told {
  static final int MAX = Integer.MAX_VALUE;
  static final int MIN = Integer.MIN_VALUE;
  private static int wrong = 0;
  private static int asked = 0;
  private static int row = 0;
  private static String sentence = "";

  /** The rows that follow are about a sentence of the document. */
  static void of(String told) {
    sentence = told;
    row = 0;
  }

  static void of(int promise) {
    of("promise " + promise);
  }

  static void due(int want, int got) {
    row++;
    asked++;
    if (got != want) {
      wrong++;
      System.out.println(sentence + ", row " + row + ": answered " + got + ", due is " + want);
    }
  }

  static void due(boolean want, boolean got) {
    due(want ? 1 : 0, got ? 1 : 0);
  }

  /** Each of some answers is the same. */
  static void all(int want, int... got) {
    for (int one : got) {
      due(want, one);
    }
  }

  static void must(boolean holds, String told) {
    asked++;
    if (!holds) {
      wrong++;
      System.out.println(sentence + ": not so: " + told);
    }
  }

  /** Tells how it went, and ends with 1 if an answer was not as due. */
  static void finish() {
    System.out.println(wrong == 0 ? asked + " answers are as due" : wrong + " answers are not as due");
    if (wrong != 0) {
      System.exit(1);
    }
  }

  static void feed(NamelessPost x, String text) {
    int before = x.count(9);
    for (int i = 0; i < text.length(); i += 20) {
      int[] n = new int[5];
      for (int j = 0; j < 20 && i + j < text.length(); j++) {
        n[j / 4] |= (text.charAt(i + j) & 255) << 24 - 8 * (j % 4);
      }
      x.feed(n[0], n[1], n[2], n[3], n[4]);
    }
    x.end(before + text.length());
  }

  static int cover(NamelessPost x, String text) {
    feed(x, text);
    return x.cover();
  }

  /** The fault of a text in a new post; -2 - its number if it has none. */
  static int fault(String text) {
    return -2 - cover(new NamelessPost(), text);
  }

  static NamelessPost people(int... places) {
    NamelessPost x = new NamelessPost();
    for (int place : places) {
      x.person(place);
    }
    return x;
  }

  static void mark(NamelessPost x, int day, int person, int mark) {
    x.change(day, 0, person, mark, 0, true);
  }

  static void unmark(NamelessPost x, int day, int person, int mark) {
    x.change(day, 0, person, mark, 0, false);
  }

  static void tie(NamelessPost x, int day, int person, int tie, int other) {
    x.change(day, 1, person, tie, other, true);
  }

  static void move(NamelessPost x, int day, int person, int place) {
    x.change(day, 2, person, place, 0, false);
  }

  static String many(String text, int times) {
    StringBuilder all = new StringBuilder();
    for (int i = 0; i < times; i++) {
      all.append(text);
    }
    return all.toString();
  }

  /**
   * A letter that goes round. Places 0, 1, 2 in a line. 0 at place 2 and 2 at place 0 have the
   * mark; 1 at place 0 tells of 0, so that it goes to 1; 3 at place 1 knows 2 alone and sends it
   * back to 0. 4 is at place 7.
   */
  static NamelessPost ring(int days) {
    NamelessPost x = people(2, 0, 0, 1, 7);
    x.road(0, 1, days);
    x.road(1, 2, 9);
    mark(x, 0, 0, 0);
    mark(x, 0, 2, 0);
    x.knows(1, 0, true);
    x.knows(3, 2, true);
    cover(x, "then a");
    return x;
  }

  /** How soon, or whether, over six roads of nine days and one more. */
  static int longWay(int last, int what) {
    NamelessPost x = new NamelessPost();
    for (int i = 0; i < 8; i++) {
      x.person(i);
      if (i > 0) {
        x.road(i - 1, i, i == 7 ? last : 9);
      }
    }
    mark(x, 0, 7, 0);
    for (int i = 0; i < 7; i++) {
      x.knows(i, 7, true);
    }
    return x.sure(0, cover(x, "a"), 7, 0, 0, what);
  }
}
