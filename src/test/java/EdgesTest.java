/**
 * The sentences of the document that name an edge, one by one in its order, each on both sides.
 * What numbers a call takes, and that a refused call changes nothing, is in RefusalsTest.
 */
public final class EdgesTest extends Told {
  public static void main(String[] args) {
    newPost();
    roads();
    far();
    changes();
    seen();
    texts();
    words();
    misspelt();
    numbers();
    depth();
    tooMany();
    firstFault();
    fits();
    everyWord();
    askedBefore();
    only();
    then();
    asked();
    wayTowards();
    noRoads();
    nobodyTells();
    daysGoBy();
    lastLetters();
    sender();
    stale();
    sureDays();
    sureChoices();
    rings();
    told();
    judged();
    worth();
    cheapestDays();
    cheapestOfSeveral();
    cheapestWords();
    cheapestNone();
    apart();
    endsGoings();
    endsLastDay();
    needs();
    needsFirst();
    needsNobodyElse();
    needsOfEach();
    mends();
    readers();
    alone();
    acquaintance();
    copies();
    often();
    images();
    imagesOfLetters();
    imagesOfDays();
    imagesOfRoads();
    finish();
  }

  // ---- I ----

  private static void newPost() {
    of("nobody, no ROADS, no COVERS; NOW (0 at first)");
    NamelessPost x = new NamelessPost();
    for (int what = 0; what < 10; what++) {
      due(0, x.count(what));
    }
    all(-1, x.marks(0, 0), x.lives(0, 0), x.circle(0), x.chain(0, 0), x.change(0, 0, 0, 0, 0, true));
    due(-2, x.fits(0, 0, 0, 0, -1));
    due(-2, x.letters(0, 0));
    due(-2, x.often());
    all(-1, x.back(0), x.back(1), x.back(2), x.back(3));
    of("PLACES 0 to 7, all there");
    for (int place = 0; place < 8; place++) {
      due(0, x.far(place, place));
      due(place, x.person(place));
      due(place, x.lives(place, 0));
    }
    of("PEOPLE 0 to 11");
    for (int one = 8; one < 12; one++) {
      due(one, x.person(3));
    }
    due(-1, x.person(3));
    due(12, x.count(0));
    due(3, x.lives(11, 999));
    due(-1, x.lives(12, 999));
    of("at first no MARKS, no TIES, the PLACE told with one; KNOWS not");
    all(0, x.marks(11, 0), x.marks(11, 999), x.ties(11, 0, 0), x.ties(11, 5, 999));
    due(1, x.sees(0, 0));
    due(1, x.circle(0));
    of("WORTH (1 at first)");
    for (int of = 0; of <= 16; of++) {
      due(1, x.worth(of, 1));
    }
  }

  private static void roads() {
    of("ROADS 0 to 15; NONE: there are 16");
    NamelessPost x = new NamelessPost();
    int made = 0;
    for (int one = 0; one < 8; one++) {
      for (int other = one + 1; other < 8; other++) {
        due(made < 16 ? made : -1, x.road(one, other, 1));
        made++;
      }
    }
    due(16, x.count(1));
    due(1, x.far(2, 5));
    due(2, x.far(2, 6));
    of("between two unlike PLACES");
    x = new NamelessPost();
    all(-1, x.road(0, 0, 1), x.road(7, 7, 1));
    due(0, x.road(0, 7, 1));
    of("one each two");
    all(-1, x.road(0, 7, 1), x.road(0, 7, 2), x.road(7, 0, 1), x.road(7, 0, 2));
    due(1, x.far(0, 7));
    due(1, x.road(7, 1, 1));
    of("days (1 to 9) each");
    all(-1, x.road(2, 3, 0), x.road(2, 3, 10), x.road(2, 3, -1));
    due(-2, x.far(2, 3));
    due(2, x.road(2, 3, 1));
    due(3, x.road(4, 5, 9));
    due(1, x.far(3, 2));
    due(9, x.far(5, 4));
  }

  private static void far() {
    of("FAR: the fewest days by ROADS");
    NamelessPost x = new NamelessPost();
    for (int place = 0; place < 7; place++) {
      x.road(place, place + 1, 9);
    }
    due(63, x.far(0, 7));
    due(63, x.far(7, 0));
    x.road(7, 0, 9);
    due(9, x.far(0, 7));
    due(36, x.far(0, 4));
    due(27, x.far(0, 5));
    x = new NamelessPost();
    x.road(0, 1, 9);
    x.road(0, 2, 4);
    x.road(2, 1, 5);
    due(9, x.far(0, 1));
    x.road(2, 3, 1);
    x.road(3, 1, 3);
    due(8, x.far(0, 1));
    // Each PLACE may lie between two others.
    for (int between = 0; between < 8; between++) {
      x = new NamelessPost();
      int one = (between + 1) % 8;
      int other = (between + 2) % 8;
      x.road(one, between, 2);
      x.road(between, other, 3);
      due(5, x.far(one, other));
      due(5, x.far(other, one));
      x.road(one, other, 6);
      due(5, x.far(one, other));
    }
    x = new NamelessPost();
    x.road(0, 2, 1);
    of("-2: no way");
    due(-2, x.far(0, 4));
    due(-2, x.far(4, 0));
    due(0, x.far(4, 4));
    x.road(4, 3, 9);
    due(-2, x.far(0, 4));
    x.road(3, 2, 9);
    due(19, x.far(0, 4));
  }

  private static void changes() {
    of("CHANGES: 60 at most");
    NamelessPost x = people(0, 1);
    for (int n = 1; n <= 60; n++) {
      due(n, x.change(n % 2 == 0 ? 999 : 0, 0, 0, 0, 0, n % 4 < 2));
    }
    all(-1, x.change(0, 0, 0, 1, 0, true), x.change(0, 1, 0, 1, 1, true), x.change(0, 2, 0, 1, 0, true));
    due(60, x.count(2));
    // Of DAY 0 the 59th was the last told (not), of 999 the 60th (there).
    due(0, x.marks(0, 0));
    due(0, x.marks(0, 998));
    due(1, x.marks(0, 999));
    of("on a DAY all is as CHANGES of it and of DAYS ahead made it");
    x = people(4, 5);
    x.change(10, 0, 0, 9, 0, true);
    x.change(10, 1, 0, 5, 1, true);
    x.change(10, 2, 0, 7, 0, true);
    x.change(11, 0, 0, 9, 0, false);
    x.change(11, 1, 0, 5, 1, false);
    x.change(11, 2, 0, 4, 0, false);
    due(0, x.marks(0, 9));
    due(512, x.marks(0, 10));
    due(0, x.marks(0, 11));
    due(0, x.ties(0, 5, 9));
    due(2, x.ties(0, 5, 10));
    due(0, x.ties(0, 5, 11));
    due(4, x.lives(0, 9));
    due(7, x.lives(0, 10));
    due(4, x.lives(0, 11));
    due(0, x.ties(1, 5, 10));
    of("those of one DAY in the order told");
    x = people(0, 1);
    mark(x, 5, 0, 0);
    unmark(x, 5, 0, 0);
    unmark(x, 5, 0, 1);
    mark(x, 9, 0, 2);
    mark(x, 5, 0, 1);
    move(x, 5, 0, 6);
    move(x, 4, 0, 2);
    move(x, 5, 0, 3);
    move(x, 5, 1, 6);
    due(2, x.marks(0, 5));
    due(3, x.lives(0, 5));
    due(2, x.lives(0, 4));
    mark(x, 5, 0, 0);
    due(3, x.marks(0, 5));
    due(7, x.marks(0, 9));
    of("a CHANGE that makes nothing other is one too");
    int before = x.count(2);
    due(before + 1, x.change(5, 0, 0, 0, 0, true));
    due(before + 2, x.change(5, 2, 0, 3, 0, true));
    of("other, is are not asked where there is no need");
    due(before + 3, x.change(6, 0, 0, 5, MAX, true));
    due(before + 4, x.change(6, 0, 0, 6, 0, true));
    due(before + 5, x.change(6, 2, 0, 7, MIN, false));
    due(7, x.lives(0, 6));
    due(3 + 32 + 64, x.marks(0, 6));
  }

  private static void seen() {
    of("SEEN by one: himself, whom he KNOWS, who is at his PLACE on that DAY");
    NamelessPost x = people(0, 1, 1, 2);
    due(1, x.sees(0, 0));
    due(6, x.sees(1, 0));
    x.knows(0, 3, true);
    due(9, x.sees(0, 0));
    due(8, x.sees(3, 0));
    move(x, 3, 3, 1);
    due(8, x.sees(3, 2));
    due(14, x.sees(3, 3));
    due(14, x.sees(1, 3));
    due(9, x.sees(0, 3));
    of("by NONE all are SEEN");
    int all = cover(x, "a or not a");
    due(15, x.fits(all, 0, 0, 0, -1));
    due(9, x.fits(all, 0, 0, 0, 0));
    due(-2, x.fits(all, 0, 0, 0, -2));
  }

  // ---- II ----

  private static void texts() {
    of("texts of at most 400 bytes");
    due(-2, fault(many(" ", 399) + "a"));
    due(-2, fault("a" + many(" ", 399)));
    due(1, fault(""));
    due(1 + 8, fault(" "));
    of("the end (behind the last byte)");
    due(1 + 8 * 400, fault(many(" ", 400)));
    due(1 + 8 * 400, fault("a" + many(" ", 397) + "or"));
    due(1 + 8 * 400, fault(many(" ", 398) + "[a"));
    due(1 + 8 * 400, fault(many(" ", 398) + "at"));
    due(1 + 8 * 400, fault(many(" ", 399) + "u"));
    due(1 + 8 * 399, fault(many(" ", 399) + "k"));
    of("only, then once each at most, in any order");
    String[] fine = {"a", "only a", "then a", "only then a", "then only a", "  then  only[a]"};
    for (String text : fine) {
      due(-2, fault(text));
    }
    due(1 + 8 * 5, fault("only only a"));
    due(1 + 8 * 5, fault("then then a"));
    due(1 + 8 * 10, fault("only then then a"));
    due(1 + 8 * 10, fault("then only then a"));
    due(1 + 8 * 2, fault("a only"));
    due(1 + 8 * 1, fault("[only a]"));
    of("PART { or PART }, FACT { and FACT }");
    due(-2, fault("a or b or c and d and e or not f"));
    due(1 + 8 * 5, fault("a or or b"));
    due(1 + 8 * 6, fault("a and and b"));
    due(1, fault("or"));
    due(1 + 8 * 2, fault("a not b"));
    due(1 + 8 * 2, fault("a me"));
    due(1 + 8 * 2, fault("a [ b ]"));
    due(1 + 8 * 2, fault("a ] b"));
    of("[ TEST ]");
    due(-2, fault("[a]"));
    due(-2, fault("[[a]or[b]]and[c]"));
    due(1 + 8, fault("[]"));
    due(1 + 8 * 2, fault("[a"));
    due(1 + 8 * 3, fault("[a b]"));
    due(1 + 8 * 3, fault("[a]]"));
    due(1 + 8 * 6, fault("[a or ]"));
    of("TIE FACT");
    due(-2, fault("u me"));
    due(-2, fault("z[a or b]"));
    due(-2, fault("u not v a"));
    due(1 + 8, fault("u"));
    due(1 + 8 * 2, fault("u and a"));
    due(1 + 8 * 2, fault("u ]"));
    of("not FACT");
    due(-2, fault("not me"));
    due(1 + 8 * 3, fault("not"));
    due(1 + 8 * 4, fault("not and"));
  }

  private static void words() {
    of("MARK (a letter a to j), TIE (a letter u to z)");
    for (char letter = 'a'; letter <= 'z'; letter++) {
      int want = letter <= 'j' ? -2 : letter < 'u' ? 1 : 1 + 8;
      due(want, fault("" + letter));
      due(letter < 'u' ? (letter <= 'j' ? 1 + 8 * 2 : 1) : -2, fault(letter + " me"));
    }
    of("words and letters are as far as small letters go on");
    due(1, fault("ab"));
    due(1, fault("ua"));
    due(1, fault("nota"));
    due(1, fault("notnot a"));
    due(1, fault("mea"));
    due(1, fault("m"));
    due(1, fault("onlythen a"));
    due(1, fault("an"));
    due(1 + 8 * 2, fault("a an b"));
    due(1 + 8 * 2, fault("a andb"));
    due(1 + 8 * 2, fault("a orr b"));
    due(-2, fault("not[a]and[b]or at3or me"));
    due(-2, fault("u[a]"));
    of("a byte that can't stand there");
    for (int sign : new int[] {0, 9, 10, 13, 31, 33, '(', '/', ':', '@', 'A', 'Z', '\\', '^', '_', '`', '{', 127, 128, 160, 225, 255}) {
      due(1, fault("" + (char) sign));
      due(1 + 8, fault("a" + (char) sign));
      due(1 + 8 * 2, fault("a " + (char) sign + " b"));
      due(1 + 8 * 2, fault("at" + (char) sign));
    }
    of("blanks (32) stand between as one likes");
    due(-2, fault("   [   a   ]   or   at   3   "));
    due(-2, fault("[a]or at3and[b]"));
    due(1 + 8, fault("a\nor b"));
  }

  private static void misspelt() {
    of("a word that can't stand there");
    String[] words = {"at", "me", "not", "and", "or", "only", "then"};
    String[] texts = {"* 3", "*", "* a", "a * b", "a * b", "* a", "* a"};
    for (int i = 0; i < words.length; i++) {
      String word = words[i];
      int place = texts[i].indexOf('*');
      due(-2, fault(texts[i].replace("*", word)));
      for (int letter = 0; letter < word.length(); letter++) {
        for (char other : new char[] {'a', 'q', 'z', 'n'}) {
          String wrong = word.substring(0, letter) + other + word.substring(letter + 1);
          if (!wrong.equals(word)) {
            due(1 + 8 * place, fault(texts[i].replace("*", wrong)));
          }
        }
        String shorter = word.substring(0, letter) + word.substring(letter + 1);
        if (shorter.length() > 1) {
          due(1 + 8 * place, fault(texts[i].replace("*", shorter)));
        }
      }
      due(1 + 8 * place, fault(texts[i].replace("*", word + "s")));
      due(1 + 8 * place, fault(texts[i].replace("*", word.toUpperCase())));
    }
  }

  private static void numbers() {
    of("at NUMBER (a PLACE, 1 digit); 1 a NUMBER of more digits, or above 7");
    for (int n = 0; n < 10; n++) {
      due(n < 8 ? -2 : 1 + 8 * 3 + 1, fault("at " + n));
      due(n < 8 ? -2 : 1 + 8 * 2 + 1, fault("at" + n));
      due(1 + 8 * 2 + 1, fault("at0" + n));
      due(1 + 8 * 2 + 1, fault("at" + n + "0"));
    }
    due(1 + 8 * 3 + 1, fault("at " + many("0", 397)));
    due(1 + 8 * 3 + 1, fault("at 9999999999999999999999"));
    due(1 + 8 * 5, fault("at 3 3"));
    due(1 + 8 * 3, fault("at x"));
    due(1 + 8 * 3, fault("at -1"));
    due(1 + 8 * 3, fault("at at 3"));
    due(1 + 8 * 2, fault("a 3"));
    due(1, fault("3"));
    due(1 + 8 * 4, fault("at 3a"));
  }

  private static void depth() {
    of("2 too deep: the 11th [ or not within one another");
    due(-2, fault(many("[", 10) + "a" + many("]", 10)));
    due(1 + 8 * 10 + 2, fault(many("[", 11) + "a" + many("]", 11)));
    due(-2, fault(many("not ", 10) + "a"));
    due(1 + 8 * 40 + 2, fault(many("not ", 11) + "a"));
    for (int nots = 0; nots <= 10; nots++) {
      String ten = many("not ", nots) + many("[", 10 - nots);
      due(-2, fault(ten + "a" + many("]", 10 - nots)));
      due(1 + 8 * ten.length() + 2, fault(ten + "[a"));
      due(1 + 8 * ten.length() + 2, fault(ten + "not a"));
    }
    due(-2, fault(many("[not ", 5) + "a" + many("]", 5)));
    due(1 + 8 * 25 + 2, fault(many("[not ", 5) + "[a"));
    of("at the sign that opens, or the word");
    due(1 + 8 * 42 + 2, fault(many("not ", 10) + "  not a"));
    due(1 + 8 * 13 + 2, fault(many("[", 10) + "   [ a"));
    of("not within one another: as many as one likes");
    due(-2, fault("not a" + many(" and not a", 29)));
    due(-2, fault("[a]" + many("or[a]", 29)));
    due(-2, fault(many("[", 10) + "a" + many("]", 10) + "or " + many("not ", 10) + "a"));
    due(-2, fault(many("[", 9) + "not a and not a or[a]" + many("]", 9)));
    due(1 + 8 * 19 + 2, fault(many("[", 9) + "not a and[not a" + many("]", 10)));
    of("the fifth TIE");
    due(-2, fault("u v w x a"));
    due(1 + 8 * 8 + 2, fault("u v w x y a"));
    due(1 + 8 * 8 + 2, fault("u u u u u"));
    due(-2, fault("z z z z me or z z z z me"));
    due(-2, fault("u u u [u a and u a]"));
    due(1 + 8 * 9 + 2, fault("u u u [u u a]"));
    due(1 + 8 * 16 + 2, fault("u not u[u not[u z a]]"));
    of("[ and not, and TIES, count each on their own");
    due(-2, fault(many("not ", 10) + "u u u u a"));
    due(-2, fault("u u u u " + many("not ", 10) + "a"));
    due(1 + 8 * 48 + 2, fault("u u u u " + many("not ", 10) + "not a"));
  }

  private static void tooMany() {
    of("3 the 31st MARK, at or me (at its first byte)");
    String thirty = "a" + many(" or at 3 or me or b", 9) + " or c or d";
    due(-2, fault(thirty));
    int place = thirty.length() + 5;
    due(1 + 8 * place + 3, fault(thirty + " and a"));
    due(1 + 8 * place + 3, fault(thirty + " and at 3"));
    due(1 + 8 * place + 3, fault(thirty + " and me"));
    due(1 + 8 * (place + 4) + 3, fault(thirty + " and not me"));
    due(1 + 8 * (place + 2) + 3, fault(thirty + " and u a"));
    due(1 + 8 * place + 3, fault(thirty + " and[at 8"));
    due(-2, fault("j" + many(" or j", 29)));
    due(1 + 8 * 150 + 3, fault("j" + many(" or j", 30)));
    due(-2, fault("me" + many(" or me", 29)));
    due(1 + 8 * 180 + 3, fault("me" + many(" or me", 30)));
    due(-2, fault("at7" + many("or at7", 29)));
    due(1 + 8 * (3 + 6 * 29 + 3) + 3, fault("at7" + many("or at7", 30)));
    of("TIES, not and brackets are not counted");
    due(-2, fault("u[not j]" + many("or u[not j]", 29)));
  }

  private static void firstFault() {
    String thirty = "a" + many(" or a", 29);
    of("the first along the text");
    due(1 + 8 * 3 + 1, fault("at 8 or k"));
    due(1, fault("k or at 8"));
    due(1 + 8 * 10 + 2, fault(many("[", 11) + "k"));
    due(1 + 8 * (thirty.length() + 4) + 3, fault(thirty + " or at 8"));
    due(1 + 8 * (thirty.length() + 4) + 3, fault(thirty + " or a k"));
    due(1 + 8 * 8 + 2, fault("u u u u u k"));
    of("of one place the least");
    due(1 + 8 * (thirty.length() + 1), fault(thirty + " a"));
    due(1 + 8 * (thirty.length() + 1), fault(thirty + " me"));
    due(1 + 8 * (thirty.length() + 1), fault(thirty + " at 3"));
    due(1 + 8 * 12, fault(many("[", 10) + "a [b"));
    due(1 + 8 * 12, fault(many("[", 10) + "a not b"));
    due(1 + 8 * 10, fault("u u u u a u a"));
    of("-2 - its FAULT; the TAPE is empty then");
    NamelessPost x = new NamelessPost();
    due(-3, cover(x, "k"));
    due(0, x.count(9));
    due(0, x.count(3));
    due(-2 - (1 + 8 * 400), cover(x, many(" ", 400)));
    due(0, x.count(9));
    due(0, cover(x, "a"));
    due(0, x.count(9));
    due(1, x.count(3));
  }

  private static void fits() {
    of("MARKS, and, or, not, [ ] as they say");
    NamelessPost x = people(0, 0, 0, 0);
    mark(x, 0, 1, 0);
    mark(x, 0, 2, 1);
    mark(x, 0, 3, 0);
    mark(x, 0, 3, 1);
    String[] texts = {"a or b and not a", "[a or b] and not a", "not a and b", "not [a and b]", "a and b or not a and not b", "not not a"};
    int[] want = {2 + 4 + 8, 4, 4, 7, 9, 10};
    for (int i = 0; i < texts.length; i++) {
      due(want[i], x.fits(cover(x, texts[i]), 0, 0, 0, -1));
    }
    of("who has the TIE to one (SEEN, too) that fits its FACT");
    x = people(0, 0, 1, 2);
    tie(x, 0, 1, 0, 2);
    tie(x, 0, 0, 0, 3);
    mark(x, 0, 2, 0);
    int ua = cover(x, "u a");
    int uNotA = cover(x, "u not a");
    int notUa = cover(x, "not u a");
    int uMe = cover(x, "u me");
    due(2, x.fits(ua, 0, 0, 0, -1));
    due(1, x.fits(uNotA, 0, 0, 0, -1));
    due(13, x.fits(notUa, 0, 0, 0, -1));
    // 0 sees himself and 1: neither 2 nor 3.
    due(0, x.fits(ua, 0, 0, 0, 0));
    due(0, x.fits(uNotA, 0, 0, 0, 0));
    due(3, x.fits(notUa, 0, 0, 0, 0));
    x.knows(0, 2, true);
    due(2, x.fits(ua, 0, 0, 0, 0));
    due(5, x.fits(notUa, 0, 0, 0, 0));
    due(0, x.fits(uNotA, 0, 0, 0, 0));
    of("the sender (me), if SEEN");
    due(2, x.fits(uMe, 2, 0, 0, 0));
    due(0, x.fits(uMe, 3, 0, 0, 0));
    due(0, x.fits(uMe, 2, 0, 0, 3));
    int me = cover(x, "me");
    due(4, x.fits(me, 2, 0, 0, 0));
    due(0, x.fits(me, 2, 0, 0, 1));
    due(2, x.fits(me, 1, 0, 0, 1));
    due(8, x.fits(me, 3, 0, 0, -1));
    of("who is at the PLACE");
    int at2 = cover(x, "at 2");
    due(8, x.fits(at2, 0, 0, 0, -1));
    due(0, x.fits(at2, 0, 0, 0, 0));
    due(8, x.fits(at2, 0, 0, 0, 3));
  }

  private static void everyWord() {
    of("each MARK, each TIE, each PLACE is its own");
    for (int n = 0; n < 10; n++) {
      NamelessPost x = people(0, 0, 0);
      mark(x, 0, 0, (n + 9) % 10);
      mark(x, 0, 1, n);
      mark(x, 0, 2, (n + 1) % 10);
      due(2, x.fits(cover(x, "" + (char) ('a' + n)), 0, 0, 0, -1));
      due(1 << n, x.marks(1, 0));
    }
    for (int n = 0; n < 6; n++) {
      NamelessPost x = people(0, 0, 0);
      tie(x, 0, 0, (n + 5) % 6, 2);
      tie(x, 0, 1, n, 2);
      tie(x, 0, 2, (n + 1) % 6, 1);
      due(2, x.fits(cover(x, (char) ('u' + n) + " me"), 2, 0, 0, -1));
      due(0, x.fits(0, 1, 0, 0, -1));
      due(4, x.ties(1, n, 0));
    }
    NamelessPost x = people(0, 1, 2, 3, 4, 5, 6, 7);
    for (int place = 0; place < 8; place++) {
      due(1 << place, x.fits(cover(x, "at " + place), 3, 0, 0, -1));
    }
    of("the first and the last of twelve");
    x = people(0, 0, 0, 0, 0, 0, 0, 0, 0, 0, 0, 0);
    mark(x, 0, 11, 9);
    tie(x, 0, 0, 5, 11);
    tie(x, 0, 11, 5, 0);
    String[] texts = {"j", "z j", "z z j", "z me", "me", "not j", "j or not j"};
    int[] want = {2048, 1, 2048, 1, 2048, 2047, 4095};
    for (int i = 0; i < texts.length; i++) {
      due(want[i], x.fits(cover(x, texts[i]), 11, 0, 0, -1));
      due(want[i], x.fits(i, 11, 0, 0, 5));
    }
    of("a COVER is as it was told, whatever was read before it");
    x = people(0, 0);
    mark(x, 0, 1, 0);
    String wrong = "not not u[b]" + many(" or not not u[b]", 24);
    for (int i = 0; i < 8; i++) {
      cover(x, wrong + " k");
      due(i, cover(x, i % 2 == 0 ? "a" : "not a"));
    }
    for (int i = 0; i < 8; i++) {
      due(i % 2 == 0 ? 2 : 1, x.fits(i, 0, 0, 0, -1));
    }
  }

  /** Twelve people, 60 CHANGES of as many DAYS, eight COVERS. */
  private static NamelessPost crowd() {
    NamelessPost x = people(0, 1, 2, 0, 1, 2, 0, 1, 2, 0, 1, 2);
    for (int i = 0; i < 60; i++) {
      x.change(i, i % 3, i * 5 % 12, i % 4, (i * 5 + 1 + i % 11) % 12, i % 7 != 0);
    }
    String[] texts = {"me", "not me", "then me or a", "then u me", "a", "then b", "only me", "u v w[a or me]"};
    for (String text : texts) {
      cover(x, text);
    }
    return x;
  }

  private static void askedBefore() {
    of("what was asked before makes no difference");
    for (int sender = 0; sender < 12; sender++) {
      NamelessPost x = crowd();
      for (int day = 0; day < 60; day += 5) {
        for (int cover = 0; cover < 8; cover++) {
          x.fits(cover, sender, day, day, -1);
          x.fits(cover, (sender + 8) % 12, day, day, -1);
        }
      }
      for (int cover = 0; cover < 8; cover++) {
        for (int day = 0; day < 60; day += 15) {
          due(crowd().fits(cover, sender, day, day, -1), x.fits(cover, sender, day, day, -1));
          due(crowd().fits(cover, sender, day, day, 4), x.fits(cover, sender, day, day, 4));
        }
      }
    }
    for (int sender = 0; sender < 12; sender++) {
      for (int cover = 0; cover < 8; cover++) {
        NamelessPost x = crowd();
        for (int day = 0; day < 60; day++) {
          x.fits(cover, sender ^ 1, day, day, -1);
          x.fits(cover, (sender + 6) % 12, day, day, -1);
        }
        for (int day = 0; day < 60; day += 7) {
          due(crowd().fits(cover, sender, day, day, -1), x.fits(cover, sender, day, day, -1));
        }
      }
    }
    of("CHANGES of DAYS ahead told later");
    NamelessPost x = people(0, 0);
    int a = cover(x, "a");
    mark(x, 5, 1, 0);
    due(2, x.fits(a, 0, 5, 5, -1));
    due(0, x.fits(a, 0, 4, 4, -1));
    mark(x, 0, 0, 0);
    due(1, x.fits(a, 0, 4, 4, -1));
    due(3, x.fits(a, 0, 5, 5, -1));
    of("one more PERSON");
    int notA = cover(x, "not a");
    due(0, x.fits(notA, 0, 5, 5, -1));
    x.person(0);
    due(4, x.fits(notA, 0, 5, 5, -1));
    due(4, x.fits(notA, 0, 5, 5, 0));
  }

  private static void only() {
    of("with only: nobody, if it fits two or more");
    NamelessPost x = people(0, 0, 1);
    int only = cover(x, "only a");
    int onlyNot = cover(x, "only not a");
    due(0, x.fits(only, 0, 0, 0, -1));
    mark(x, 0, 1, 0);
    due(2, x.fits(only, 0, 0, 0, -1));
    mark(x, 0, 2, 0);
    due(0, x.fits(only, 0, 0, 0, -1));
    due(1, x.fits(onlyNot, 0, 0, 0, -1));
    mark(x, 0, 0, 0);
    due(0, x.fits(only, 0, 0, 0, -1));
    // Of those SEEN two or more.
    due(0, x.fits(only, 0, 0, 0, 0));
    due(4, x.fits(only, 0, 0, 0, 2));
    x.knows(2, 0, true);
    due(0, x.fits(only, 0, 0, 0, 2));
  }

  private static void then() {
    of("MARKS, TIES, PLACES as on the DAY it was sent, with then as on the second DAY");
    NamelessPost x = people(0, 1, 2);
    mark(x, 5, 1, 0);
    tie(x, 5, 2, 0, 1);
    move(x, 5, 1, 0);
    String[] texts = {"a", "u me", "at 0"};
    int[] before = {0, 0, 1};
    int[] behind = {2, 4, 3};
    for (int i = 0; i < 3; i++) {
      int plain = cover(x, texts[i]);
      int then = cover(x, "then " + texts[i]);
      due(before[i], x.fits(plain, 1, 4, 5, -1));
      due(behind[i], x.fits(plain, 1, 5, 5, -1));
      due(behind[i], x.fits(plain, 1, 5, 4, -1));
      due(behind[i], x.fits(then, 1, 4, 5, -1));
      due(before[i], x.fits(then, 1, 5, 4, -1));
    }
    of("those SEEN are so on the second DAY");
    // 1 is at 0's PLACE from DAY 5 on.
    due(1, x.fits(4, 0, 5, 4, 0));
    due(3, x.fits(4, 0, 5, 5, 0));
    due(1, x.fits(4, 0, 4, 5, 0));
  }

  // ---- III ----

  private static void asked() {
    of("those who are there are asked, by their numbers");
    NamelessPost x = people(0, 0, 0, 1);
    x.road(0, 1, 3);
    mark(x, 0, 3, 0);
    int a = cover(x, "a");
    all(2, x.asked(a, 0, 0, 0, 0, 0));
    all(-1, x.asked(a, 0, 0, 0, 0, 1), x.asked(a, 0, 0, 0, 0, 2));
    x.knows(2, 3, true);
    due(2, x.asked(a, 0, 0, 0, 0, 2));
    x.knows(1, 3, true);
    due(1, x.asked(a, 0, 0, 0, 0, 2));
    due(1, x.asked(a, 0, 0, 0, 0, 0));
    due(1, x.asked(a, 0, 0, 0, 0, 1));
    of("if he is of these himself, he opens it");
    mark(x, 1, 1, 0);
    mark(x, 1, 0, 0);
    // On DAY 1 it fits 0, 1 and 3: 0 is asked first.
    int then = cover(x, "then a");
    due(0, x.asked(then, 0, 0, 1, 0, 0));
    due(0, x.asked(then, 0, 0, 1, 0, 1));
    due(0, x.asked(then, 0, 0, 1, 0, 2));
    unmark(x, 2, 0, 0);
    mark(x, 2, 2, 0);
    // On DAY 2 it fits 1, 2 and 3: 0 tells of the least, who is there.
    of("else of these the least: if he is at the PLACE, he opens it");
    due(0, x.asked(then, 0, 0, 2, 0, 0));
    due(1, x.asked(then, 0, 0, 2, 0, 1));
    due(0, x.asked(then, 0, 0, 2, 0, 2));
    of("himself, though not the least");
    x = people(1, 0);
    x.road(0, 1, 1);
    x.knows(1, 0, true);
    int all = cover(x, "a or not a");
    due(0, x.asked(all, 0, 0, 0, 0, 0));
    due(1, x.asked(all, 0, 0, 0, 0, 1));
    of("nobody is there");
    all(2, x.asked(all, 0, 0, 0, 5, 0));
    all(-1, x.asked(all, 0, 0, 0, 5, 1), x.asked(all, 0, 0, 0, 5, 2));
  }

  private static void wayTowards() {
    of("to the next PLACE of a way of the fewest days (of several the least)");
    NamelessPost x = people(0, 7);
    x.road(0, 6, 2);
    x.road(0, 5, 3);
    x.road(0, 4, 1);
    x.road(6, 7, 3);
    x.road(5, 7, 2);
    x.road(4, 7, 5);
    x.knows(0, 1, true);
    mark(x, 0, 1, 0);
    int a = cover(x, "a");
    due(5, x.asked(a, 0, 0, 0, 0, 1));
    x.road(4, 6, 1);
    // 0, 4, 6, 7 is of five days, too.
    due(4, x.asked(a, 0, 0, 0, 0, 1));
    x.road(0, 7, 5);
    due(4, x.asked(a, 0, 0, 0, 0, 1));
    x.road(6, 3, 1);
    x.road(3, 7, 1);
    // 0, 6, 3, 7 and 0, 4, 6, 3, 7 are of four.
    due(4, x.asked(a, 0, 0, 0, 0, 1));
    of("towards his PLACE (as on that DAY)");
    move(x, 8, 1, 5);
    due(4, x.asked(a, 0, 0, 7, 0, 1));
    due(5, x.asked(a, 0, 0, 8, 0, 1));
    due(5, x.asked(a, 0, 8, 8, 0, 1));
    due(4, x.asked(a, 0, 8, 7, 0, 1));
    of("if there is no way: as if it fitted nobody");
    x = people(0, 0, 5, 6);
    x.road(0, 6, 1);
    mark(x, 0, 2, 0);
    mark(x, 0, 3, 0);
    a = cover(x, "a");
    x.knows(0, 2, true);
    due(2, x.asked(a, 0, 0, 0, 0, 0));
    // The least counts, though there is a way to another one.
    x.knows(0, 3, true);
    due(2, x.asked(a, 0, 0, 0, 0, 0));
    // The next one is asked then.
    x.knows(1, 3, true);
    due(1, x.asked(a, 0, 0, 0, 0, 0));
    due(6, x.asked(a, 0, 0, 0, 0, 1));
    due(1, x.asked(a, 0, 0, 0, 0, 2));
    x.road(6, 5, 9);
    due(0, x.asked(a, 0, 0, 0, 0, 2));
  }

  private static void noRoads() {
    of("no ROADS at all: nobody can tell of one elsewhere");
    NamelessPost x = people(0, 1);
    x.knows(0, 1, true);
    mark(x, 0, 1, 0);
    int a = cover(x, "a");
    due(2, x.asked(a, 0, 0, 0, 0, 0));
    all(-1, x.asked(a, 0, 0, 0, 0, 1), x.asked(a, 0, 0, 0, 0, 2));
    due(0, x.sure(0, a, 1, 0, 0, 0));
    due(-2, x.sure(0, a, 1, 0, 0, 1));
    due(0, x.rings(a, 0, 0, 0));
    due(2, x.ends(0, a, 0, 0, 0));
    due(-2, x.needs(0, a, 1, 0, 0, 0));
    x.letter(0, a, 1, 0);
    due(0, x.days(1));
    due(2, x.letters(0, 0));
    due(1, x.letters(0, 5));
  }

  private static void nobodyTells() {
    of("it goes to a PLACE by one ROAD at which it was not yet, that of the fewest days, of several the least");
    NamelessPost x = people(0, 0);
    x.road(3, 5, 2);
    x.road(3, 4, 3);
    x.road(3, 2, 2);
    x.road(2, 5, 1);
    x.road(2, 6, 1);
    int a = cover(x, "a");
    x.letter(0, a, 1, 3);
    x.days(1);
    due(2, x.letters(0, 1));
    due(2, x.letters(0, 2));
    due(8 + 4, x.letters(0, 5));
    x.days(2);
    due(5, x.letters(0, 1));
    due(3, x.letters(0, 2));
    due(0, x.letters(0, 0));
    of("if there is none, it is SENT BACK");
    // From 5 roads lead to 3 and 2 alone, at which it was; 6 and 4 are by one road from others.
    due(0, x.days(1));
    due(2, x.letters(0, 0));
    due(5, x.letters(0, 1));
    due(3, x.letters(0, 2));
    due(-1, x.letters(0, 3));
    due(0, x.letters(0, 4));
    due(8 + 4 + 32, x.letters(0, 5));
    // No road at all: on the DAY on which it is sent.
    x.letter(0, a, 1, 7);
    due(1, x.count(5));
    due(0, x.days(1));
    due(2, x.letters(1, 0));
    due(7, x.letters(1, 1));
    due(4, x.letters(1, 2));
    due(128, x.letters(1, 5));
    due(2, x.ends(0, a, 3, 0, 0));
    due(2, x.ends(0, a, 3, 0, 4));
  }

  private static void daysGoBy() {
    of("LETTERS under way that come on NOW are asked on; then NOW is 1 more");
    NamelessPost x = people(0, 1);
    x.road(0, 1, 9);
    x.knows(0, 1, true);
    mark(x, 0, 1, 0);
    int a = cover(x, "a");
    due(0, x.letter(0, a, 1, 0));
    due(0, x.letters(0, 2));
    due(1, x.days(1));
    due(9, x.letters(0, 2));
    due(1, x.letters(0, 1));
    due(3, x.letters(0, 5));
    due(1, x.days(8));
    due(9, x.count(7));
    due(0, x.letters(0, 0));
    due(1, x.letter(1, a, 0, 1));
    due(0, x.days(1));
    due(10, x.count(7));
    due(1, x.letters(0, 0));
    due(9, x.letters(0, 2));
    due(1, x.letters(0, 3));
    of("RIGHT: it is opened by the one it is for");
    due(1, x.letters(0, 4));
    due(1, x.letters(1, 0));
    due(1, x.letters(1, 3));
    due(0, x.letters(1, 4));
    due(1, x.count(6));
    of("days (1 to 60)");
    all(-1, x.days(0), x.days(61), x.days(-1));
    due(10, x.count(7));
    due(0, x.days(60));
    due(70, x.count(7));
    of("LETTERS 0 to 7");
    for (int i = 2; i < 8; i++) {
      due(i, x.letter(0, a, 1, 0));
      due(70, x.letters(i, 2));
    }
    due(-1, x.letter(0, a, 1, 0));
    due(-2, x.letters(8, 0));
    due(8, x.count(4));
    due(6, x.days(1));
    due(6, x.days(8));
    due(0, x.days(1));
    due(7, x.count(6));
  }

  private static void lastLetters() {
    of("NONE, and nothing happens, if NOW would be above 999");
    NamelessPost x = people(0, 1);
    x.road(0, 1, 1);
    x.knows(0, 1, true);
    mark(x, 0, 1, 0);
    int a = cover(x, "a");
    for (int i = 0; i < 16; i++) {
      x.days(60);
    }
    due(0, x.days(36));
    due(996, x.count(7));
    x.letter(0, a, 1, 0);
    due(-1, x.days(4));
    due(0, x.letters(0, 1));
    due(0, x.days(3));
    due(1, x.letters(0, 4));
    due(999, x.count(7));
    // A LETTER may be sent on DAY 999, and is under way for ever.
    due(1, x.letter(0, a, 1, 0));
    due(-1, x.days(1));
    due(0, x.letters(1, 0));
    due(999, x.letters(1, 2));
    due(1, x.count(5));
  }

  private static void sender() {
    of("a LETTER is of its own sender");
    NamelessPost x = people(0, 1, 2, 3);
    x.road(0, 3, 2);
    x.road(0, 1, 1);
    tie(x, 0, 3, 0, 1);
    tie(x, 0, 3, 0, 2);
    for (int one = 0; one < 3; one++) {
      x.knows(0, 3, true);
      x.knows(0, one, true);
      x.knows(3, one, true);
    }
    int uMe = cover(x, "u me");
    x.told(3);
    due(0, x.letter(1, uMe, 3, 0));
    due(1, x.letter(2, uMe, 3, 0));
    due(2, x.letter(0, uMe, 3, 0));
    x.days(1);
    due(3, x.letters(0, 1));
    due(3, x.letters(1, 1));
    due(1, x.letters(2, 1));
    int[] want = {0, 1, 1};
    for (int one = 0; one < 3; one++) {
      due(want[one], x.sure(one, uMe, 3, 0, 0, 0));
      due(want[one] == 1 ? -2 : 0, x.judged(uMe, one, 0, 0));
      due(want[one] == 1 ? 1 : 2, x.ends(one, uMe, 0, 0, 0));
      due(want[one] == 1 ? 0 : -2, x.needs(one, uMe, 3, 0, 0, 0));
      due(want[one] == 1 ? 2 : -2, x.copies(one, uMe, 3, 0, 0, 0, 0));
    }
  }

  private static void stale() {
    of("STALE: the first DAY from it on, 99 days behind it at most");
    NamelessPost x = people(0, 0);
    mark(x, 10, 1, 0);
    mark(x, 109, 0, 0);
    int then = cover(x, "then a");
    int plain = cover(x, "a");
    due(9, x.stale(then, 0, 1, 9));
    due(109, x.stale(then, 0, 1, 10));
    due(109, x.stale(then, 0, 1, 109));
    due(10, x.stale(then, 0, 0, 10));
    due(-2, x.stale(plain, 0, 1, 10));
    due(-2, x.stale(plain, 0, 1, 108));
    due(109, x.stale(plain, 0, 1, 109));
    x = people(0, 0);
    mark(x, 10, 1, 0);
    mark(x, 110, 0, 0);
    then = cover(x, "then a");
    due(-2, x.stale(then, 0, 1, 10));
    due(110, x.stale(then, 0, 1, 11));
    of("not just the one told: another one too, or nobody, or another one alone");
    x = people(0, 0);
    mark(x, 0, 1, 0);
    mark(x, 20, 0, 0);
    unmark(x, 30, 0, 0);
    unmark(x, 40, 1, 0);
    then = cover(x, "then a");
    due(20, x.stale(then, 0, 1, 0));
    due(40, x.stale(then, 0, 1, 30));
    due(40, x.stale(then, 0, 1, 40));
    due(30, x.stale(then, 0, 0, 30));
    of("DAYS beyond 999 are not looked at");
    x = people(0, 0);
    mark(x, 0, 1, 0);
    unmark(x, 999, 1, 0);
    then = cover(x, "then a");
    due(-2, x.stale(then, 0, 1, 899));
    due(999, x.stale(then, 0, 1, 900));
    due(999, x.stale(then, 0, 1, 999));
    mark(x, 999, 1, 0);
    due(-2, x.stale(then, 0, 1, 900));
    due(-2, x.stale(then, 0, 1, 950));
    due(-2, x.stale(then, 0, 1, 999));
  }

  private static void sureDays() {
    of("SURE: within 60 days");
    due(1, longWay(6, 0));
    due(60, longWay(6, 1));
    due(0, longWay(7, 0));
    due(-2, longWay(7, 1));
    // 4 opens it where it comes by on the 60th DAY, or, if he is there a DAY later, not any more.
    for (int day = 59; day <= 61; day++) {
      NamelessPost x = ring(1);
      mark(x, day, 4, 0);
      move(x, day, 4, day % 2);
      for (int one = 0; one < 3; one++) {
        unmark(x, day, one, 0);
      }
      due(day <= 60 ? day : -2, x.sure(1, 0, 4, 0, 0, 1));
    }
    of("all on a DAY beyond 999 is as on DAY 999");
    NamelessPost x = people(0, 1, 1);
    x.road(0, 1, 5);
    x.road(1, 2, 1);
    mark(x, 0, 1, 0);
    x.knows(0, 1, true);
    int a = cover(x, "a");
    due(1, x.sure(0, a, 1, 0, 998, 0));
    due(5, x.sure(0, a, 1, 0, 998, 1));
    due(5, x.sure(0, a, 1, 0, 999, 1));
    move(x, 999, 1, 2);
    // It comes to 1, where he was until DAY 998; 2 can't tell of him.
    due(0, x.sure(0, a, 1, 0, 998, 0));
    due(-2, x.sure(0, a, 1, 0, 998, 1));
    x.knows(2, 1, true);
    due(1, x.sure(0, a, 1, 0, 998, 0));
    due(6, x.sure(0, a, 1, 0, 998, 1));
    due(6, x.sure(0, a, 1, 0, 999, 1));
    due(5, x.sure(0, a, 1, 0, 993, 1));
  }

  private static void sureChoices() {
    of("SURE: whatever is chosen; by the best choices how soon");
    NamelessPost x = people(0, 1, 2, 3);
    x.road(0, 1, 4);
    x.road(0, 2, 2);
    x.road(2, 1, 9);
    x.road(2, 4, 1);
    x.knows(0, 1, true);
    x.knows(0, 2, true);
    mark(x, 0, 1, 0);
    int a = cover(x, "a");
    int aOrB = cover(x, "a or b");
    due(1, x.sure(0, a, 1, 0, 0, 0));
    due(4, x.sure(0, a, 1, 0, 0, 1));
    mark(x, 0, 2, 1);
    due(0, x.sure(0, aOrB, 1, 0, 0, 0));
    due(4, x.sure(0, aOrB, 1, 0, 0, 1));
    due(0, x.sure(0, aOrB, 2, 0, 0, 0));
    due(2, x.sure(0, aOrB, 2, 0, 0, 1));
    of("all who have a way to them, or are there");
    mark(x, 0, 3, 0);
    x.knows(0, 3, true);
    due(1, x.sure(0, a, 1, 0, 0, 0));
    due(-2, x.sure(0, a, 3, 0, 0, 1));
    x.road(3, 2, 1);
    due(0, x.sure(0, a, 1, 0, 0, 0));
    due(0, x.sure(0, a, 3, 0, 0, 0));
    due(-2, x.sure(0, a, 3, 0, 0, 1));
    x.knows(2, 3, true);
    due(3, x.sure(0, a, 3, 0, 0, 1));
    of("the first who can tell of one or more");
    // 0 can tell of 2 alone, to whom there is no way; 1 of 3.
    x = people(0, 0, 5, 1);
    mark(x, 0, 2, 0);
    mark(x, 0, 3, 0);
    x.knows(0, 2, true);
    x.road(0, 1, 4);
    a = cover(x, "a");
    all(0, x.sure(0, a, 2, 0, 0, 0), x.sure(0, a, 3, 0, 0, 0));
    all(-2, x.sure(0, a, 2, 0, 0, 1), x.sure(0, a, 3, 0, 0, 1));
    x.knows(1, 3, true);
    due(1, x.sure(0, a, 3, 0, 0, 0));
    due(4, x.sure(0, a, 3, 0, 0, 1));
    of("unless he opens it himself");
    x = people(0, 0, 0);
    int all = cover(x, "a or not a");
    int notMe = cover(x, "not me");
    due(0, x.sure(0, all, 1, 0, 0, 0));
    due(-2, x.sure(0, all, 1, 0, 0, 1));
    due(1, x.sure(1, all, 0, 0, 0, 0));
    due(0, x.sure(1, all, 0, 0, 0, 1));
    // 0 himself is not fit, and may choose 1 or 2, who are there.
    due(0, x.sure(0, notMe, 1, 0, 0, 0));
    due(0, x.sure(0, notMe, 1, 0, 0, 1));
    due(0, x.sure(0, notMe, 2, 0, 0, 1));
    of("where nobody can tell it comes no further");
    x = people(0, 1);
    x.road(0, 1, 1);
    mark(x, 0, 1, 0);
    a = cover(x, "a");
    due(1, x.ends(0, a, 0, 0, 0));
    due(0, x.sure(0, a, 1, 0, 0, 0));
    due(-2, x.sure(0, a, 1, 0, 0, 1));
    due(1, x.sure(0, a, 1, 1, 0, 0));
    due(0, x.sure(0, a, 1, 1, 0, 1));
  }

  private static void rings() {
    of("RINGS: PLACES from which it comes back to them");
    NamelessPost x = ring(9);
    due(3, x.rings(0, 1, 0, 0));
    due(18, x.rings(0, 1, 0, 1));
    // From 5 it goes to 0, and does not come back: 5 is told of 2.
    x.person(5);
    x.road(5, 0, 1);
    x.knows(5, 2, true);
    due(3, x.rings(0, 1, 0, 0));
    due(18, x.rings(0, 1, 0, 1));
    of("0: none");
    unmark(x, 3, 2, 0);
    due(3, x.rings(0, 1, 2, 0));
    due(0, x.rings(0, 1, 3, 0));
    due(0, x.rings(0, 1, 3, 1));
    of("as it is ASKED on: where nobody can tell it does not go");
    x = people(0, 1);
    x.road(0, 1, 1);
    int a = cover(x, "a");
    due(0, x.rings(a, 0, 0, 0));
    of("all PLACES in one round");
    x = new NamelessPost();
    for (int i = 0; i < 8; i++) {
      x.road(i, (i + 1) % 8, i + 1);
      x.person(i);
    }
    for (int i = 0; i < 8; i++) {
      x.knows(i, (i + 1) % 8, true);
      tie(x, 0, (i + 1) % 8, 0, i);
    }
    // One sees but himself and the one behind him, whose tie is to him.
    int round = cover(x, "u[a or not a]");
    due(255, x.rings(round, 0, 0, 0));
    due(36, x.rings(round, 0, 0, 1));
    of("the fewest days of a round");
    x = ring(4);
    x.person(4);
    x.person(5);
    x.road(4, 5, 2);
    due(8, x.rings(0, 1, 0, 1));
  }

  private static void told() {
    of("A WAY told: PLACES, 20 at most");
    NamelessPost x = new NamelessPost();
    for (int n = 1; n <= 20; n++) {
      due(n, x.told(n % 8));
    }
    all(-2, x.told(0), x.told(7), x.told(8));
    due(20, x.count(8));
    of("NONE: the WAY is empty then");
    due(0, x.told(-1));
    due(0, x.count(8));
    due(0, x.told(-1));
    due(1, x.told(7));
    all(-2, x.told(8), x.told(-2));
    due(1, x.count(8));
  }

  private static void judged() {
    of("JUDGED: the first to which it does not go next; -2: none");
    NamelessPost x = ring(4);
    due(-2, x.judged(0, 1, 0, 0));
    due(-2, x.judged(0, 1, 7, 999));
    x.told(1);
    due(-2, x.judged(0, 1, 0, 0));
    due(0, x.judged(0, 1, 1, 0));
    x.told(0);
    x.told(2);
    x.told(1);
    due(2, x.judged(0, 1, 0, 0));
    x.told(-1);
    for (int i = 0; i < 19; i++) {
      x.told((i + 1) % 2);
    }
    x.told(2);
    due(19, x.judged(0, 1, 0, 0));
    of("or not any more");
    // Opened at 2 by 0; at 7 it is sent back.
    x.told(-1);
    x.told(1);
    due(0, x.judged(0, 1, 2, 0));
    due(0, x.judged(0, 1, 7, 0));
    of("or it would come there behind DAY 999");
    due(-2, x.judged(0, 1, 0, 995));
    due(0, x.judged(0, 1, 0, 996));
    due(0, x.judged(0, 1, 0, 999));
    x.told(0);
    due(-2, x.judged(0, 1, 0, 991));
    due(1, x.judged(0, 1, 0, 992));
    of("it goes as a LETTER would: where nobody can tell, too");
    x = people(0);
    x.road(0, 3, 5);
    x.road(0, 2, 5);
    x.road(2, 3, 9);
    int a = cover(x, "a");
    x.told(2);
    x.told(3);
    due(-2, x.judged(a, 0, 0, 0));
    due(-2, x.judged(a, 0, 0, 985));
    due(1, x.judged(a, 0, 0, 986));
    // At 3 it was at 0 and 2 already.
    x.told(0);
    due(2, x.judged(a, 0, 0, 0));
  }

  // ---- IV ----

  private static void worth() {
    of("WORTH: 0 to 99 each; of MARKS (0 to 9), TIES (10 to 15), of not (16)");
    NamelessPost x = new NamelessPost();
    for (int of = 0; of <= 16; of++) {
      all(-1, x.worth(of, -1), x.worth(of, 100));
      due(1, x.worth(of, 0));
      due(0, x.worth(of, 99));
      due(99, x.worth(of, of));
    }
    all(-1, x.worth(-1, 1), x.worth(17, 1));
    for (int of = 0; of <= 16; of++) {
      due(of, x.worth(of, 1));
    }
  }

  private static void cheapestDays() {
    of("CHEAPEST: words that hold of the one on all these DAYS");
    NamelessPost x = people(0, 0);
    mark(x, 10, 1, 0);
    unmark(x, 41, 1, 0);
    due(1, x.cheapest(0, 1, 10, 40, 0));
    due(1, x.cheapest(0, 1, 10, 40, 1));
    due(0, x.cheapest(0, 1, 10, 40, 2));
    due(-2, x.cheapest(0, 1, 9, 39, 0));
    due(-2, x.cheapest(0, 1, 11, 41, 0));
    of("DAYS 31 at most");
    due(-1, x.cheapest(0, 1, 10, 41, 0));
    due(-1, x.cheapest(0, 1, 11, 10, 0));
    due(1, x.cheapest(0, 1, 10, 10, 0));
    of("if there is one, -2 for what 3 and 4");
    all(-2, x.cheapest(0, 1, 10, 40, 3), x.cheapest(0, 1, 10, 40, 4));
    of("if there is none: the first of these DAYS and the least other one");
    all(-2, x.cheapest(0, 1, 11, 41, 1), x.cheapest(0, 1, 11, 41, 2));
    due(11, x.cheapest(0, 1, 11, 41, 3));
    due(0, x.cheapest(0, 1, 11, 41, 4));
    of("or not this: on all these DAYS");
    x = people(0, 0);
    mark(x, 0, 0, 0);
    mark(x, 5, 1, 0);
    unmark(x, 6, 1, 0);
    due(2, x.cheapest(0, 1, 0, 4, 0));
    due(1, x.cheapest(0, 1, 0, 4, 1));
    due(1, x.cheapest(0, 1, 0, 4, 2));
    due(-2, x.cheapest(0, 1, 0, 5, 0));
    due(-2, x.cheapest(0, 1, 5, 6, 0));
    due(2, x.cheapest(0, 1, 6, 36, 0));
    of("by which on each of these DAYS no other one is fit all");
    x = people(0, 0, 0);
    mark(x, 0, 1, 0);
    mark(x, 0, 1, 1);
    mark(x, 3, 0, 0);
    unmark(x, 4, 0, 0);
    mark(x, 4, 2, 1);
    due(1, x.cheapest(0, 1, 0, 2, 1));
    due(2, x.cheapest(0, 1, 0, 3, 1));
    due(3, x.cheapest(0, 1, 3, 4, 1));
    due(2, x.cheapest(0, 1, 3, 4, 0));
    due(1, x.cheapest(0, 1, 4, 4, 1));
    of("a TIE to the sender");
    x = people(0, 0, 0);
    tie(x, 0, 1, 5, 0);
    tie(x, 0, 1, 4, 2);
    due(1 << 15, x.cheapest(0, 1, 0, 0, 1));
    due(1 << 14, x.cheapest(2, 1, 0, 0, 1));
  }

  private static void cheapestOfSeveral() {
    of("the least WORTH together (not: its own and the MARK's or TIE's)");
    NamelessPost x = people(0, 0);
    mark(x, 0, 1, 9);
    mark(x, 0, 0, 0);
    due(1, x.cheapest(0, 1, 0, 0, 0));
    due(512, x.cheapest(0, 1, 0, 0, 1));
    x.worth(9, 2);
    // 2 for the MARK, 1 + 1 for not the other one: one word each, then the least.
    due(2, x.cheapest(0, 1, 0, 0, 0));
    due(1, x.cheapest(0, 1, 0, 0, 1));
    due(1, x.cheapest(0, 1, 0, 0, 2));
    x.worth(16, 2);
    due(512, x.cheapest(0, 1, 0, 0, 1));
    due(0, x.cheapest(0, 1, 0, 0, 2));
    x.worth(9, 99);
    x.worth(0, 99);
    x.worth(16, 0);
    due(99, x.cheapest(0, 1, 0, 0, 0));
    due(1, x.cheapest(0, 1, 0, 0, 1));
    of("of several the one with the fewest words");
    // By marks a and b from 0 and 2, or by mark j from both.
    x = people(0, 0, 0);
    mark(x, 0, 1, 0);
    mark(x, 0, 2, 0);
    mark(x, 0, 1, 1);
    mark(x, 0, 0, 1);
    mark(x, 0, 1, 9);
    x.worth(9, 2);
    due(2, x.cheapest(0, 1, 0, 0, 0));
    due(512, x.cheapest(0, 1, 0, 0, 1));
    x.worth(9, 3);
    due(2, x.cheapest(0, 1, 0, 0, 0));
    due(3, x.cheapest(0, 1, 0, 0, 1));
    of("words for nothing are words, too");
    x.worth(0, 0);
    x.worth(1, 0);
    x.worth(9, 0);
    due(512, x.cheapest(0, 1, 0, 0, 1));
    of("then the least");
    mark(x, 0, 1, 8);
    x.worth(8, 0);
    due(256, x.cheapest(0, 1, 0, 0, 1));
    tie(x, 0, 1, 0, 0);
    x.worth(10, 0);
    due(256, x.cheapest(0, 1, 0, 0, 1));
    x.worth(8, 1);
    x.worth(9, 1);
    due(1024, x.cheapest(0, 1, 0, 0, 1));
  }

  private static void cheapestWords() {
    of("all sixteen words are needed");
    // Not one word holds of 1. On DAY 0 each other one has a word of his own, on DAY 1 some another.
    NamelessPost x = people(0, 0, 0, 0, 0, 0, 0, 0, 0, 0, 0, 0);
    mark(x, 0, 0, 0);
    for (int one = 2; one < 11; one++) {
      mark(x, 0, one, one - 1);
    }
    tie(x, 0, 11, 0, 0);
    for (int one = 2; one < 7; one++) {
      unmark(x, 1, one, one - 1);
      tie(x, 1, one, one - 1, 0);
    }
    due(22, x.cheapest(0, 1, 0, 0, 0));
    due(2047, x.cheapest(0, 1, 0, 0, 1));
    due(2047, x.cheapest(0, 1, 0, 0, 2));
    due(32, x.cheapest(0, 1, 0, 1, 0));
    due(65535, x.cheapest(0, 1, 0, 1, 1));
    due(65535, x.cheapest(0, 1, 0, 1, 2));
    for (int of = 0; of <= 16; of++) {
      x.worth(of, 99);
    }
    due(16 * 198, x.cheapest(0, 1, 0, 1, 0));
    of("any of sixteen words does");
    x = people(0, 0);
    for (int n = 0; n < 16; n++) {
      x.change(0, n < 10 ? 0 : 1, 1, n < 10 ? n : n - 10, 0, true);
    }
    due(1, x.cheapest(0, 1, 0, 0, 1));
    for (int n = 0; n < 16; n++) {
      x.worth(n, 0);
      due(1 << n, x.cheapest(0, 1, 0, 0, 1));
      due(0, x.cheapest(0, 1, 0, 0, 0));
      x.worth(n, 1);
    }
    of("more words for less");
    // By mark a from 0 and 2, or by b and c.
    x = people(0, 0, 0);
    mark(x, 0, 1, 0);
    mark(x, 0, 1, 1);
    mark(x, 0, 1, 2);
    mark(x, 0, 0, 1);
    mark(x, 0, 2, 2);
    x.worth(0, 2);
    due(1, x.cheapest(0, 1, 0, 0, 1));
    x.worth(0, 3);
    due(2, x.cheapest(0, 1, 0, 0, 0));
    due(6, x.cheapest(0, 1, 0, 0, 1));
    of("the least of several of two words");
    // Unlike 0 in a or b, unlike 2 in c or j, unlike 3 in b or j.
    x = people(0, 0, 0, 0);
    for (int n : new int[] {0, 1, 2, 9}) {
      mark(x, 0, 1, n);
    }
    mark(x, 0, 0, 2);
    mark(x, 0, 0, 9);
    mark(x, 0, 2, 0);
    mark(x, 0, 2, 1);
    mark(x, 0, 3, 0);
    mark(x, 0, 3, 2);
    due(2, x.cheapest(0, 1, 0, 0, 0));
    due(6, x.cheapest(0, 1, 0, 0, 1));
    for (int of = 0; of <= 16; of++) {
      x.worth(of, 0);
    }
    due(0, x.cheapest(0, 1, 0, 0, 0));
    due(6, x.cheapest(0, 1, 0, 0, 1));
    of("one less unlike than another, told behind it");
    // Unlike 0 in a or b, unlike 2 in c, unlike 3 in a.
    x = people(0, 0, 0, 0);
    mark(x, 0, 0, 0);
    mark(x, 0, 0, 1);
    mark(x, 0, 2, 2);
    mark(x, 0, 3, 0);
    due(4, x.cheapest(0, 1, 0, 0, 0));
    due(5, x.cheapest(0, 1, 0, 0, 1));
    due(5, x.cheapest(0, 1, 0, 0, 2));
  }

  private static void cheapestNone() {
    of("the least other one of whom none of these words does not hold");
    NamelessPost x = people(0, 0, 0, 0);
    mark(x, 0, 1, 0);
    mark(x, 0, 2, 0);
    mark(x, 0, 3, 0);
    due(-2, x.cheapest(0, 1, 0, 5, 0));
    due(0, x.cheapest(0, 1, 0, 5, 3));
    due(2, x.cheapest(0, 1, 0, 5, 4));
    due(1, x.cheapest(0, 3, 0, 5, 4));
    mark(x, 0, 2, 1);
    due(3, x.cheapest(0, 1, 0, 5, 4));
    mark(x, 0, 3, 2);
    due(-2, x.cheapest(0, 1, 0, 5, 4));
    mark(x, 4, 1, 2);
    // On DAYS 4 to 9 he and 3 are alike; with DAY 3 that MARK is no word.
    due(4, x.cheapest(0, 1, 4, 9, 3));
    due(3, x.cheapest(0, 1, 4, 9, 4));
    due(3, x.cheapest(0, 1, 3, 9, 3));
    due(3, x.cheapest(0, 1, 3, 9, 4));
    due(-2, x.cheapest(0, 1, 0, 3, 3));
    // The sender is another one, too.
    mark(x, 20, 0, 0);
    mark(x, 20, 0, 2);
    due(20, x.cheapest(0, 1, 20, 20, 3));
    due(0, x.cheapest(0, 1, 20, 20, 4));
  }

  private static void apart() {
    of("APART: the fewest MARKS (of several the least, as bits)");
    NamelessPost x = new NamelessPost();
    due(0, x.apart(0, 30, 0));
    x.person(0);
    due(0, x.apart(0, 30, 0));
    due(0, x.apart(0, 30, 1));
    x.person(0);
    due(-2, x.apart(0, 30, 0));
    due(0, x.apart(0, 30, 1));
    mark(x, 0, 0, 9);
    due(512, x.apart(0, 30, 0));
    due(512, x.apart(0, 30, 1));
    mark(x, 0, 1, 3);
    due(8, x.apart(0, 30, 0));
    due(0, x.apart(0, 30, 1));
    of("on each of these DAYS");
    unmark(x, 31, 1, 3);
    due(8, x.apart(0, 30, 0));
    due(512, x.apart(1, 31, 0));
    due(512, x.apart(1, 31, 1));
    unmark(x, 32, 0, 9);
    due(-2, x.apart(2, 32, 0));
    // Alone on DAY 31, which is one of these.
    due(512, x.apart(2, 32, 1));
    due(0, x.apart(32, 62, 1));
    of("DAYS 31 at most");
    due(-1, x.apart(1, 32, 0));
    due(-1, x.apart(2, 1, 0));
    due(-1, x.apart(1, 32, 1));
    of("twelve can be told apart by four, by less than four not");
    x = people(0, 0, 0, 0, 0, 0, 0, 0, 0, 0, 0, 0);
    for (int one = 0; one < 12; one++) {
      for (int bit = 0; bit < 4; bit++) {
        if ((one >> bit & 1) == 1) {
          mark(x, 0, one, 6 + bit);
        }
      }
    }
    due(960, x.apart(0, 0, 0));
    due(960, x.apart(0, 0, 1));
    of("two do it where three lesser ones would, too");
    // One each has a, b, c of his own; d and e tell all four apart.
    x = people(0, 0, 0, 0);
    for (int one = 1; one < 4; one++) {
      mark(x, 0, one, one - 1);
    }
    mark(x, 0, 1, 3);
    mark(x, 0, 2, 4);
    mark(x, 0, 3, 3);
    due(7, x.apart(0, 0, 0));
    mark(x, 0, 3, 4);
    due(24, x.apart(0, 0, 0));
    of("ties do not count");
    x = people(0, 0);
    tie(x, 0, 0, 0, 1);
    due(-2, x.apart(0, 0, 0));
  }

  // ---- V ----

  private static void endsGoings() {
    of("ENDS: 100 goings at most");
    NamelessPost x = ring(1);
    int[] want = {0, -1, 100, 0, 100};
    for (int what = 0; what < 5; what++) {
      due(want[what], x.ends(1, 0, 0, 0, what));
    }
    of("1 opened, behind 99 goings");
    mark(x, 99, 3, 0);
    want = new int[] {1, 3, 99, 1, 99};
    for (int what = 0; what < 5; what++) {
      due(want[what], x.ends(1, 0, 0, 0, what));
    }
    of("0 under way still (behind 100 goings)");
    // From DAY 100 on 3 would open it where it comes on DAY 101.
    x = ring(1);
    mark(x, 100, 3, 0);
    want = new int[] {0, -1, 100, 0, 100};
    for (int what = 0; what < 5; what++) {
      due(want[what], x.ends(1, 0, 0, 0, what));
    }
    due(1, x.ends(1, 0, 0, 2, 0));
    due(99, x.ends(1, 0, 0, 2, 4));
    // 2 would open it where it came behind 100 goings: it is not asked there any more.
    x = ring(1);
    unmark(x, 100, 0, 0);
    due(0, x.ends(1, 0, 0, 0, 0));
    due(100, x.ends(1, 0, 0, 0, 4));
    due(1, x.ends(1, 0, 0, 2, 0));
    due(98, x.ends(1, 0, 0, 2, 4));
    of("2 SENT BACK");
    x = ring(1);
    unmark(x, 99, 0, 0);
    unmark(x, 99, 2, 0);
    // On DAY 99 it is at 1, was at 0, and goes on to 2, which it comes to on DAY 108.
    want = new int[] {0, -1, 108, 2, 100};
    for (int what = 0; what < 5; what++) {
      due(want[what], x.ends(1, 0, 0, 0, what));
    }
    // Sent from 1 it is at 0 on that DAY, and there is no ROAD but that to 1.
    want = new int[] {2, -1, 99, 0, 99};
    for (int what = 0; what < 5; what++) {
      due(want[what], x.ends(1, 0, 1, 0, what));
    }
  }

  private static void endsLastDay() {
    of("0 if it would come behind DAY 999 next: that going is not done");
    NamelessPost x = ring(1);
    int[] want = {0, -1, 999, 1, 99};
    for (int what = 0; what < 5; what++) {
      due(want[what], x.ends(1, 0, 0, 900, what));
    }
    due(100, x.ends(1, 0, 0, 899, 4));
    due(999, x.ends(1, 0, 0, 899, 2));
    due(0, x.ends(1, 0, 0, 999, 4));
    due(999, x.ends(1, 0, 0, 999, 2));
    of("opened on DAY 999");
    mark(x, 999, 3, 0);
    due(1, x.ends(1, 0, 0, 900, 0));
    due(3, x.ends(1, 0, 0, 900, 1));
    of("a ROAD that is too long by one DAY");
    x = people(0, 1);
    x.road(0, 1, 9);
    x.knows(0, 1, true);
    mark(x, 0, 1, 0);
    int a = cover(x, "a");
    due(1, x.ends(0, a, 0, 990, 0));
    due(999, x.ends(0, a, 0, 990, 2));
    due(0, x.ends(0, a, 0, 991, 0));
    due(991, x.ends(0, a, 0, 991, 2));
    due(0, x.ends(0, a, 0, 991, 3));
    due(0, x.ends(0, a, 0, 991, 4));
    of("where nobody can tell, too; SENT BACK on DAY 999");
    x.knows(0, 1, false);
    due(1, x.ends(0, a, 0, 990, 0));
    due(0, x.ends(0, a, 0, 991, 0));
    due(2, x.ends(0, a, 5, 999, 0));
    due(999, x.ends(0, a, 5, 999, 2));
  }

  /** From 0 it goes to 6, where it is sent back, unless 0 sees 1, who has u to 2, who has v to 3. */
  private static NamelessPost threeNeeded() {
    NamelessPost x = people(0, 3, 4, 5);
    x.road(0, 6, 1);
    x.road(0, 3, 2);
    tie(x, 0, 1, 0, 2);
    tie(x, 0, 2, 1, 3);
    mark(x, 0, 3, 0);
    x.knows(1, 2, true);
    x.knows(1, 3, true);
    cover(x, "u v a");
    return x;
  }

  private static void needs() {
    of("NEEDS: -2: more than two");
    NamelessPost x = threeNeeded();
    all(-2, x.needs(0, 0, 1, 0, 0, 0), x.needs(0, 0, 1, 0, 0, 1), x.needs(0, 0, 1, 0, 0, 2));
    of("two: the lesser ahead");
    x.knows(0, 2, true);
    due(2, x.needs(0, 0, 1, 0, 0, 0));
    due(1, x.needs(0, 0, 1, 0, 0, 1));
    due(3, x.needs(0, 0, 1, 0, 0, 2));
    of("one: -2 for the second");
    x.knows(0, 1, true);
    due(1, x.needs(0, 0, 1, 0, 0, 0));
    due(3, x.needs(0, 0, 1, 0, 0, 1));
    due(-2, x.needs(0, 0, 1, 0, 0, 2));
    of("0: -2 for both");
    x.knows(0, 3, true);
    due(0, x.needs(0, 0, 1, 0, 0, 0));
    all(-2, x.needs(0, 0, 1, 0, 0, 1), x.needs(0, 0, 1, 0, 0, 2));
    of("opened by whom it is for");
    all(-2, x.needs(0, 0, 2, 0, 0, 0), x.needs(0, 0, 3, 0, 0, 0));
    of("nobody KNOWS more by it");
    x = threeNeeded();
    x.needs(0, 0, 1, 0, 0, 0);
    due(1, x.sees(0, 0));
    due(14, x.sees(1, 0));
    due(1, x.circle(0));
    of("two of two who are asked one behind the other");
    // 0 must know 2 to send it to 1, where nobody but 1 is: he must know 2, too.
    x = people(0, 1, 2);
    x.road(0, 7, 1);
    x.road(0, 1, 2);
    x.road(1, 2, 3);
    x.road(1, 6, 1);
    mark(x, 0, 2, 0);
    int a = cover(x, "a");
    due(2, x.needs(0, a, 2, 0, 0, 0));
    due(2, x.needs(0, a, 2, 0, 0, 1));
    due(12 + 2, x.needs(0, a, 2, 0, 0, 2));
  }

  private static void needsFirst() {
    of("NEEDS: of several the first");
    NamelessPost x = people(0, 0, 0, 1);
    x.road(0, 1, 5);
    x.road(0, 7, 1);
    mark(x, 0, 3, 0);
    int a = cover(x, "a");
    due(1, x.needs(0, a, 3, 0, 0, 0));
    due(3, x.needs(0, a, 3, 0, 0, 1));
    // At 1 it is opened by 3 himself.
    due(0, x.needs(0, a, 3, 1, 0, 0));
    of("one does it where two would, too");
    due(-2, x.needs(0, a, 3, 0, 0, 2));
    of("as on the DAYS on which it comes");
    move(x, 4, 0, 6);
    due(3, x.needs(0, a, 3, 0, 3, 1));
    due(12 + 3, x.needs(0, a, 3, 0, 4, 1));
    of("not one who is told does more than to KNOW: himself can't be known");
    x = people(0, 1);
    x.road(0, 7, 1);
    mark(x, 0, 0, 0);
    a = cover(x, "a");
    all(-2, x.needs(1, a, 0, 7, 999, 0), x.needs(1, a, 0, 7, 999, 1));
    due(0, x.needs(1, a, 0, 7, 998, 0));
  }

  private static void needsNobodyElse() {
    of("the one and the other are PEOPLE");
    // Of 1, at 0, it holds for himself alone, since he does not see 0; nobody else could be told of.
    NamelessPost x = people(3, 0);
    x.road(3, 5, 1);
    x.road(3, 0, 2);
    tie(x, 0, 1, 0, 0);
    mark(x, 0, 0, 1);
    int text = cover(x, "not u b and not me");
    due(2, x.fits(text, 0, 0, 0, 1));
    due(0, x.fits(text, 0, 0, 0, -1));
    all(-2, x.needs(0, text, 1, 3, 0, 0), x.needs(0, text, 1, 3, 0, 1), x.needs(0, text, 1, 3, 0, 2));
    of("of whom the one does not KNOW the other");
    x = people(0, 1, 2);
    x.road(0, 1, 1);
    x.road(0, 2, 1);
    mark(x, 0, 1, 0);
    mark(x, 0, 2, 0);
    int a = cover(x, "a");
    due(1, x.needs(0, a, 2, 0, 0, 0));
    due(2, x.needs(0, a, 2, 0, 0, 1));
    // If 0 did not KNOW 1 any more, it would be opened by 2.
    x.knows(0, 1, true);
    x.knows(0, 2, true);
    all(-2, x.needs(0, a, 2, 0, 0, 0), x.needs(0, a, 2, 0, 0, 1), x.needs(0, a, 2, 0, 0, 2));
  }

  /** Twelve people, all at place 5, to which no road leads, but for those who are moved. */
  private static NamelessPost twelve() {
    NamelessPost x = people(5, 5, 5, 5, 5, 5, 5, 5, 5, 5, 5, 5);
    cover(x, "a");
    return x;
  }

  private static void needsOfEach() {
    of("each as 12 * the one and the other");
    for (int one = 0; one < 12; one++) {
      for (int other = 0; other < 12; other++) {
        if (one != other) {
          NamelessPost x = twelve();
          x.road(0, 1, 2);
          x.road(0, 6, 1);
          move(x, 0, one, 0);
          move(x, 0, other, 1);
          mark(x, 0, other, 0);
          due(1, x.needs(one, 0, other, 0, 0, 0));
          due(12 * one + other, x.needs(one, 0, other, 0, 0, 1));
          due(-2, x.needs(one, 0, other, 0, 0, 2));
        }
      }
    }
    of("two, each as 12 * the one and the other, the lesser ahead");
    for (int one = 0; one < 12; one++) {
      int between = (one + 5) % 12;
      int last = (one + 10) % 12;
      NamelessPost x = twelve();
      x.road(0, 7, 1);
      x.road(0, 1, 2);
      x.road(1, 2, 3);
      x.road(1, 6, 1);
      move(x, 0, one, 0);
      move(x, 0, between, 1);
      move(x, 0, last, 2);
      mark(x, 0, last, 0);
      due(2, x.needs(one, 0, last, 0, 0, 0));
      due(12 * Math.min(one, between) + last, x.needs(one, 0, last, 0, 0, 1));
      due(12 * Math.max(one, between) + last, x.needs(one, 0, last, 0, 0, 2));
    }
  }

  private static void mends() {
    of("MENDS: 32: it needs none; -2: no word does");
    NamelessPost x = people(0, 0, 0);
    int a = cover(x, "a");
    int onlyA = cover(x, "only a");
    int all = cover(x, "a or not a");
    int or = cover(x, "a or b");
    due(-2, x.mends(a, 0, 1, 0));
    mark(x, 0, 1, 0);
    due(32, x.mends(a, 0, 1, 0));
    due(-2, x.mends(a, 0, 2, 0));
    due(0, x.mends(all, 0, 1, 0));
    mark(x, 0, 2, 0);
    due(-2, x.mends(a, 0, 1, 0));
    of("16 more with not");
    mark(x, 0, 2, 9);
    due(25, x.mends(a, 0, 1, 0));
    due(9, x.mends(a, 0, 2, 0));
    of("only not looked at");
    due(25, x.mends(onlyA, 0, 1, 0));
    due(9, x.mends(onlyA, 0, 2, 0));
    of("added with and to all of it");
    mark(x, 0, 0, 1);
    due(-2, x.mends(or, 0, 1, 0));
    due(1, x.mends(or, 0, 0, 0));
    due(9, x.mends(or, 0, 2, 0));
    of("a TIE 10 to 15 to the sender");
    tie(x, 0, 1, 5, 0);
    due(15, x.mends(or, 0, 1, 0));
    due(-2, x.mends(or, 2, 1, 0));
    tie(x, 0, 1, 0, 0);
    due(10, x.mends(or, 0, 1, 0));
    of("of the least WORTH (with not its own, too), of several the least");
    // 10 and 15 for the one; 25 with not, for a alone.
    due(10, x.mends(a, 0, 1, 0));
    x.worth(16, 0);
    due(10, x.mends(a, 0, 1, 0));
    x.worth(10, 2);
    x.worth(15, 2);
    due(25, x.mends(a, 0, 1, 0));
    x.worth(16, 1);
    due(10, x.mends(a, 0, 1, 0));
    x.worth(10, 3);
    due(15, x.mends(a, 0, 1, 0));
    x.worth(15, 3);
    due(25, x.mends(a, 0, 1, 0));
    of("sent and read on the DAY");
    unmark(x, 7, 2, 0);
    due(25, x.mends(a, 0, 1, 6));
    due(32, x.mends(a, 0, 1, 7));
    of("each of the 32 words");
    for (int n = 0; n < 16; n++) {
      for (int one : new int[] {0, 2}) {
        x = people(0, 0, 0);
        x.change(0, n < 10 ? 0 : 1, one, n < 10 ? n : n - 10, 1, true);
        int both = cover(x, "not me");
        due(n, x.mends(both, 1, one, 0));
        due(16 + n, x.mends(both, 1, 2 - one, 0));
        due(-2, x.mends(both, 1, 1, 0));
      }
    }
  }

  private static void readers() {
    of("TELLERS: PEOPLE as readers whom it FITS anybody");
    NamelessPost x = people(0, 0, 1, 2);
    int a = cover(x, "a");
    int notA = cover(x, "not a");
    int only = cover(x, "only not a");
    due(0, x.tellers(a, 0, 0));
    due(15, x.tellers(notA, 0, 0));
    due(12, x.tellers(only, 0, 0));
    mark(x, 3, 2, 0);
    due(0, x.tellers(a, 0, 2));
    due(4, x.tellers(a, 0, 3));
    x.knows(0, 2, true);
    due(5, x.tellers(a, 0, 3));
    due(11, x.tellers(notA, 0, 3));
    of("LIED: those whom it FITS others than, of those SEEN by them, for NONE");
    all(0, x.lied(a, 0, 3), x.lied(notA, 0, 3));
    // For NONE it fits nobody with only (0, 1, 3 are two or more): 3 sees himself alone.
    due(8, x.lied(only, 0, 3));
    due(12, x.lied(only, 0, 0));
    tie(x, 3, 1, 0, 2);
    int ua = cover(x, "u a");
    int notUa = cover(x, "not u a");
    // 1 has it to 2, whom he does not see; 0 sees both.
    due(2, x.lied(ua, 0, 3));
    due(2, x.lied(notUa, 0, 3));
    due(1, x.tellers(ua, 0, 3));
    due(0, x.lied(ua, 0, 2));
  }

  private static void alone() {
    of("ALONE: of 100 DAYS from one on (999 at most)");
    NamelessPost x = people(0, 0);
    mark(x, 0, 1, 0);
    int plain = cover(x, "a");
    int then = cover(x, "then a");
    due(100, x.alone(plain, 0, 1, 0));
    due(100, x.alone(then, 0, 1, 900));
    due(99, x.alone(then, 0, 1, 901));
    due(1, x.alone(then, 0, 1, 999));
    due(0, x.alone(then, 0, 0, 0));
    mark(x, 199, 0, 0);
    unmark(x, 201, 0, 0);
    due(100, x.alone(then, 0, 1, 99));
    due(99, x.alone(then, 0, 1, 100));
    due(98, x.alone(then, 0, 1, 101));
    due(99, x.alone(then, 0, 1, 200));
    of("on which it was sent");
    due(100, x.alone(plain, 0, 1, 100));
    due(0, x.alone(plain, 0, 1, 200));
    due(100, x.alone(plain, 0, 1, 201));
  }

  private static void acquaintance() {
    of("CHAIN: the fewest steps (0 to himself); -2: none");
    NamelessPost x = people(0, 0, 0, 0, 0, 0, 0, 0, 0, 0, 0, 0);
    due(0, x.chain(11, 11));
    due(-2, x.chain(0, 11));
    for (int one = 0; one < 11; one++) {
      x.knows(one, one + 1, true);
    }
    due(11, x.chain(0, 11));
    due(1, x.chain(10, 11));
    due(-2, x.chain(11, 10));
    due(0, x.chain(0, 0));
    x.knows(0, 10, true);
    due(2, x.chain(0, 11));
    of("CIRCLE: whom one comes to so (himself, too)");
    due(2048, x.circle(11));
    due(4095, x.circle(0));
    due(4094, x.circle(1));
    x.knows(11, 0, true);
    due(4095, x.circle(11));
    of("STRANGERS: twos of whom neither is SEEN by the other one");
    x = new NamelessPost();
    due(0, x.strangers(0));
    x.person(0);
    due(0, x.strangers(999));
    x.person(1);
    due(1, x.strangers(0));
    x.knows(1, 0, true);
    due(0, x.strangers(0));
    x.knows(1, 0, false);
    x.knows(0, 1, true);
    due(0, x.strangers(0));
    x.knows(0, 1, false);
    move(x, 3, 1, 0);
    due(1, x.strangers(2));
    due(0, x.strangers(3));
    x = people(0, 1, 2, 3, 4, 5, 6, 7, 7, 7, 7, 7);
    due(66 - 10, x.strangers(0));
  }

  private static void copies() {
    of("COPIES: which one ENDS RIGHT on an earlier DAY (0, 1; 2: both on one), and when");
    NamelessPost x = people(0, 1, 2);
    x.road(0, 2, 4);
    x.road(1, 2, 5);
    mark(x, 0, 2, 0);
    int a = cover(x, "a");
    x.knows(0, 2, true);
    x.knows(1, 2, true);
    due(0, x.copies(0, a, 2, 0, 1, 3, 0));
    due(7, x.copies(0, a, 2, 0, 1, 3, 1));
    due(1, x.copies(0, a, 2, 1, 0, 3, 0));
    due(7, x.copies(0, a, 2, 1, 0, 3, 1));
    x.road(1, 0, 1);
    // From 1 it is of five DAYS either way.
    due(0, x.copies(0, a, 2, 0, 1, 3, 0));
    of("PLACES may be alike");
    due(2, x.copies(0, a, 2, 1, 1, 3, 0));
    due(8, x.copies(0, a, 2, 1, 1, 3, 1));
    due(2, x.copies(0, a, 2, 2, 2, 3, 0));
    due(3, x.copies(0, a, 2, 2, 2, 3, 1));
    of("one alone is RIGHT");
    due(0, x.copies(0, a, 2, 0, 6, 3, 0));
    due(7, x.copies(0, a, 2, 0, 6, 3, 1));
    due(1, x.copies(0, a, 2, 6, 0, 3, 0));
    due(7, x.copies(0, a, 2, 6, 0, 3, 1));
    of("-2: neither is RIGHT");
    all(-2, x.copies(0, a, 2, 6, 6, 3, 0), x.copies(0, a, 2, 6, 5, 3, 1), x.copies(0, a, 1, 0, 1, 3, 0));
    of("ENDS not behind DAY 999");
    due(0, x.copies(0, a, 2, 0, 1, 995, 0));
    due(999, x.copies(0, a, 2, 0, 1, 995, 1));
    due(-2, x.copies(0, a, 2, 0, 1, 996, 0));
    due(2, x.copies(0, a, 2, 2, 2, 999, 0));
    due(999, x.copies(0, a, 2, 2, 2, 999, 1));
    due(0, x.copies(0, a, 2, 0, 6, 0, 0));
    due(4, x.copies(0, a, 2, 0, 6, 0, 1));
  }

  private static void often() {
    of("OFTEN: -2: none is opened");
    NamelessPost x = people(0, 1, 2);
    mark(x, 0, 0, 0);
    mark(x, 0, 2, 0);
    int a = cover(x, "a");
    due(-2, x.often());
    x.letter(1, a, 2, 7);
    x.letter(1, a, 2, 2);
    due(-2, x.often());
    of("who opened most LETTERS");
    x.days(1);
    due(2, x.letters(0, 0));
    due(2, x.often());
    of("of several the least");
    x.letter(1, a, 2, 0);
    x.days(1);
    due(0, x.often());
    x.letter(1, a, 2, 2);
    due(0, x.often());
    x.days(1);
    due(2, x.often());
    of("RIGHT or not");
    x.letter(1, a, 2, 0);
    x.letter(1, a, 2, 0);
    x.days(1);
    due(0, x.often());
  }

  private static void images() {
    of("IMAGES 0 to 3");
    NamelessPost x = new NamelessPost();
    all(-1, x.image(-1), x.image(4));
    for (int k = 0; k < 4; k++) {
      due(k, x.image(k));
      x.person(k);
      x.days(1);
    }
    for (int k = 3; k >= 0; k--) {
      due(k, x.back(k));
      due(k, x.count(0));
      due(k, x.count(7));
    }
    of("gone back to, it is as it was, as often as one likes");
    due(3, x.back(3));
    due(3, x.count(0));
    due(1, x.lives(1, 0));
    x.person(7);
    due(3, x.back(3));
    due(3, x.count(0));
    of("made once more, it is as it is then");
    x.person(6);
    due(3, x.image(0));
    due(1, x.back(1));
    due(3, x.back(0));
    due(4, x.count(0));
    due(6, x.lives(3, 0));
    of("all but the COVERS and the TAPE (these stay)");
    x = people(0, 1);
    mark(x, 0, 0, 0);
    feed(x, "a or");
    x.image(0);
    feed(x, " b");
    due(0, x.back(0));
    due(6, x.count(9));
    due(0, x.cover());
    due(0, x.back(0));
    due(1, x.count(3));
    due(0, x.count(9));
    due(1, x.fits(0, 0, 0, 0, -1));
    of("NEEDS, FITS and FAR are as of what is gone back to");
    x.image(1);
    mark(x, 0, 1, 1);
    x.road(0, 1, 3);
    x.knows(0, 1, true);
    due(3, x.fits(0, 0, 0, 0, -1));
    due(3, x.far(0, 1));
    x.back(1);
    due(1, x.fits(0, 0, 0, 0, -1));
    due(-2, x.far(0, 1));
    due(1, x.sees(0, 0));
    due(0, x.marks(1, 0));
  }

  private static void imagesOfLetters() {
    of("LETTERS are as they were, though others had their numbers in between");
    NamelessPost x = people(0, 1, 2, 7);
    x.road(0, 1, 2);
    x.road(1, 2, 3);
    mark(x, 0, 2, 0);
    x.knows(0, 2, true);
    tie(x, 0, 2, 0, 1);
    int a = cover(x, "a");
    int uMe = cover(x, "u me");
    x.image(0);
    x.letter(1, uMe, 2, 1);
    x.letter(0, a, 2, 0);
    x.letter(0, a, 1, 2);
    x.letter(0, a, 1, 7);
    x.days(1);
    x.image(1);
    // Others with the same numbers, of other senders, places and days.
    x.back(0);
    x.days(9);
    for (int i = 0; i < 8; i++) {
      x.letter(3, a, 0, 2 + i % 2);
    }
    x.days(3);
    due(1, x.back(1));
    due(4, x.count(4));
    int[][] want = {
      // At 1 nobody sees 2 and it goes to 0; at 0 it is told of 2; at 2 it is opened; at 7 sent back.
      {0, 0, 2, -1, 0, 3},
      {0, 1, 2, -1, 0, 3},
      {1, 2, 0, 2, 0, 4},
      {2, 7, 0, -1, 0, 128},
    };
    for (int i = 0; i < 4; i++) {
      for (int what = 0; what < 6; what++) {
        due(want[i][what], x.letters(i, what));
      }
    }
    due(-2, x.letters(4, 0));
    due(2, x.often());
    // 0 does not see 1, whose tie it is about; nor does it go to 1 a second time.
    due(1, x.days(2));
    due(2, x.letters(0, 0));
    due(0, x.letters(0, 1));
    due(3, x.letters(0, 5));
    due(2, x.letters(1, 1));
    due(5, x.letters(1, 2));
    due(7, x.letters(1, 5));
    due(0, x.days(3));
    due(1, x.letters(1, 4));
    due(1, x.count(6));
    of("on the DAY it was sent, by its own sender");
    x.back(0);
    x.knows(1, 2, true);
    x.letter(1, uMe, 2, 1);
    x.days(2);
    x.image(2);
    x.back(0);
    x.days(5);
    x.letter(0, a, 3, 7);
    x.days(1);
    due(2, x.back(2));
    // Sent on DAY 0 from 1 it comes to 2 on DAY 3, where 2 must see 1 to know of himself.
    x.knows(2, 1, true);
    x.change(1, 1, 2, 0, 1, false);
    due(1, x.days(1));
    due(0, x.days(1));
    due(1, x.letters(0, 4));
    due(2, x.letters(0, 3));
    due(3, x.letters(0, 2));
  }

  private static void imagesOfDays() {
    of("CHANGES and PEOPLE are as they were, though as many others were there in between");
    NamelessPost x = people(0, 1);
    int a = cover(x, "a");
    int at = cover(x, "at 5");
    x.image(0);
    mark(x, 3, 1, 0);
    x.person(5);
    x.image(1);
    due(2, x.fits(a, 0, 3, 3, -1));
    due(4, x.fits(at, 0, 3, 3, -1));
    x.back(0);
    mark(x, 3, 0, 0);
    x.person(6);
    due(1, x.fits(a, 0, 3, 3, -1));
    due(0, x.fits(at, 0, 3, 3, -1));
    due(6, x.lives(2, 3));
    due(1, x.marks(0, 3));
    x.back(1);
    due(2, x.fits(a, 0, 3, 3, -1));
    due(4, x.fits(at, 0, 3, 3, -1));
    due(5, x.lives(2, 3));
    due(0, x.marks(0, 3));
    due(1, x.marks(1, 3));
  }

  private static void imagesOfRoads() {
    of("ROADS between each two PLACES are as they were");
    for (int one = 0; one < 8; one++) {
      for (int other = 0; other < one; other++) {
        NamelessPost x = people(one, other);
        x.knows(0, 1, true);
        mark(x, 0, 1, 0);
        int a = cover(x, "a");
        x.image(0);
        due(0, x.road(one, other, 4));
        x.image(1);
        due(0, x.back(0));
        due(0, x.count(1));
        all(-2, x.far(one, other), x.far(other, one));
        due(2, x.asked(a, 0, 0, 0, one, 0));
        due(0, x.back(1));
        due(1, x.count(1));
        all(4, x.far(one, other), x.far(other, one));
        due(other, x.asked(a, 0, 0, 0, one, 1));
        all(-1, x.road(one, other, 4), x.road(other, one, 4));
        x.back(0);
        due(0, x.road(other, one, 7));
        all(7, x.far(one, other), x.far(other, one));
        due(7, x.ends(0, a, one, 0, 2));
        x.back(1);
        due(4, x.ends(0, a, one, 0, 2));
      }
    }
  }
}
