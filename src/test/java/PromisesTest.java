/** The promises one by one: ordinary inputs, the edges that the document names, wrong inputs. */
public final class PromisesTest extends Told {
  public static void main(String[] args) {
    newObject();
    roadsAndPeople();
    changes();
    knowsAndWorth();
    tape();
    faults();
    daysTold();
    far();
    fits();
    fitsSeen();
    asked();
    stale();
    letters();
    lettersAtTheEnd();
    sure();
    rings();
    judged();
    cheapest();
    apart();
    ends();
    needs();
    mends();
    readers();
    acquaintance();
    copies();
    often();
    images();
    neverThrows();
    finish();
  }

  private static void newObject() {
    of(1);
    NamelessPost x = new NamelessPost();
    for (int what = 0; what < 10; what++) {
      due(0, x.count(what));
    }
    due(-2, x.far(0, 1));
    due(0, x.far(7, 7));
    all(-1, x.count(-1), x.count(10), x.count(MAX), x.count(MIN), x.back(0), x.marks(0, 0), x.circle(0));
    due(-2, x.often());
    due(0, x.strangers(0));
    due(0, x.apart(0, 0, 0));
    due(0, x.apart(0, 0, 1));
    due(-1, NamelessPost.NONE);
  }

  private static void roadsAndPeople() {
    of(2);
    NamelessPost x = new NamelessPost();
    all(-1, x.road(0, 0, 1), x.road(-1, 0, 1), x.road(0, 8, 1), x.road(8, 0, 1), x.road(0, 1, 0), x.road(0, 1, 10));
    all(-1, x.road(MAX, 0, 1), x.road(0, MIN, 1), x.road(0, 1, MAX), x.road(0, 1, MIN));
    due(0, x.road(7, 0, 9));
    due(-1, x.road(0, 7, 1));
    due(-1, x.road(7, 0, 1));
    due(9, x.far(0, 7));
    int made = 1;
    for (int one = 0; one < 7 && made < 16; one++) {
      for (int other = one + 1; other < 7 && made < 16; other++) {
        due(made, x.road(one, other, 1));
        made++;
      }
    }
    due(16, x.count(1));
    due(-1, x.road(6, 7, 1));
    due(16, x.count(1));

    of(3);
    x = new NamelessPost();
    all(-1, x.person(-1), x.person(8), x.person(MAX), x.person(MIN));
    for (int i = 0; i < 12; i++) {
      due(i, x.person(i % 8));
    }
    due(-1, x.person(0));
    due(12, x.count(0));
    due(3, x.lives(11, 0));
  }

  private static void changes() {
    of(4);
    NamelessPost x = people(0, 1);
    all(-1, x.change(-1, 0, 0, 0, 0, true), x.change(1000, 0, 0, 0, 0, true));
    all(-1, x.change(0, -1, 0, 0, 0, true), x.change(0, 3, 0, 0, 0, true), x.change(0, MAX, 0, 0, 1, true));
    all(-1, x.change(0, 0, -1, 0, 0, true), x.change(0, 0, 2, 0, 0, true));
    all(-1, x.change(0, 0, 0, -1, 0, true), x.change(0, 0, 0, 10, 0, true));
    all(-1, x.change(0, 1, 0, -1, 1, true), x.change(0, 1, 0, 6, 1, true));
    all(-1, x.change(0, 1, 0, 0, 0, true), x.change(0, 1, 0, 0, 2, true), x.change(0, 1, 0, 0, -1, true));
    all(-1, x.change(0, 2, 0, -1, 0, true), x.change(0, 2, 0, 8, 0, true));
    due(0, x.count(2));
    due(1, x.change(999, 0, 0, 9, MAX, true));
    due(2, x.change(0, 1, 0, 5, 1, true));
    due(3, x.change(5, 2, 0, 7, MIN, false));
    due(512, x.marks(0, 999));
    due(0, x.marks(0, 998));
    due(2, x.ties(0, 5, 0));
    due(0, x.lives(0, 4));
    due(7, x.lives(0, 5));
    // Of one day in the order told, whatever was told between; earlier days told later stay earlier.
    due(4, x.change(10, 0, 1, 0, 0, true));
    due(5, x.change(3, 0, 1, 0, 0, false));
    due(6, x.change(10, 0, 1, 0, 0, false));
    due(0, x.marks(1, 10));
    due(7, x.change(10, 0, 1, 0, 0, true));
    due(1, x.marks(1, 10));
    due(0, x.marks(1, 9));
    due(8, x.change(2, 0, 1, 0, 0, true));
    due(1, x.marks(1, 2));
    due(0, x.marks(1, 3));
    // One who comes later is where he was told to be on all days.
    due(2, x.person(6));
    due(6, x.lives(2, 0));
    due(1, x.marks(1, 2));
    for (int i = 9; i <= 60; i++) {
      due(i, x.change(i, 0, 0, 0, 0, i % 2 == 0));
    }
    due(-1, x.change(0, 0, 0, 0, 0, true));
    due(60, x.count(2));
    due(513, x.marks(0, 999));
    due(0, x.marks(0, 59));
    due(1, x.marks(0, 60));
  }

  private static void knowsAndWorth() {
    of(5);
    NamelessPost x = people(0, 1, 2);
    due(false, x.knows(0, 1, false));
    due(true, x.knows(0, 1, true));
    due(false, x.knows(0, 1, true));
    due(3, x.sees(0, 0));
    due(2, x.sees(1, 0));
    due(true, x.knows(0, 1, false));
    due(1, x.sees(0, 0));
    due(false, x.knows(0, 0, true));
    due(false, x.knows(0, 3, true));
    due(false, x.knows(3, 0, true));
    due(false, x.knows(-1, 0, true));
    due(false, x.knows(0, MIN, true));

    of(6);
    for (int of = 0; of <= 16; of++) {
      due(1, x.worth(of, 99));
      due(99, x.worth(of, 0));
      due(0, x.worth(of, of));
      due(of, x.worth(of, of));
    }
    all(-1, x.worth(-1, 0), x.worth(17, 0), x.worth(0, -1), x.worth(0, 100), x.worth(MAX, MAX), x.worth(MIN, MIN));
    due(16, x.worth(16, 1));
  }

  private static void tape() {
    of(7);
    NamelessPost x = people(0);
    mark(x, 0, 0, 0);
    for (int i = 1; i <= 20; i++) {
      due(20 * i, x.feed(0x20202020, 0x20202020, 0x20202020, 0x20202020, 0x20202020));
    }
    due(-1, x.feed(0, 0, 0, 0, 0));
    due(400, x.count(9));
    of(8);
    all(-1, x.end(401), x.end(-1), x.end(MAX), x.end(MIN));
    due(400, x.end(400));
    due(381, x.end(381));
    of(7);
    due(-1, x.feed(0, 0, 0, 0, 0));
    due(381, x.count(9));
    of(8);
    due(380, x.end(380));
    of(7);
    due(400, x.feed(0x20202020, 0x20202061, 0x20202020, 0x20202020, 0x20202020));
    of(9);
    due(0, x.cover());
    due(0, x.count(9));
    due(1, x.fits(0, 0, 0, 0, -1));
    of(7);
    // The highest byte first, and above 127 no byte is below 0.
    x.feed(0x6e6f7420, 0x5b620000, 0, 0, 0);
    x.end(6);
    due(-2 - (1 + 8 * 6), x.cover());
    x.feed(0xE1000000, 0, 0, 0, 0);
    x.end(1);
    due(-3, x.cover());
    of(9);
    for (int i = 1; i < 8; i++) {
      due(i, cover(x, "b"));
    }
    feed(x, "c");
    due(-1, x.cover());
    due(1, x.count(9));
    x.end(0);
    due(-1, x.cover());
    due(8, x.count(3));
  }

  private static void faults() {
    of(9);
    // 0: what can't stand there, or the end.
    due(1, fault(""));
    due(1 + 8 * 3, fault("   "));
    due(1, fault("A"));
    due(1, fault("k"));
    due(1, fault("t"));
    due(1, fault("and a"));
    due(1, fault("aa"));
    due(1, fault("nota"));
    due(1, fault("3"));
    due(1, fault("]"));
    due(1 + 8, fault("a3"));
    due(1 + 8 * 2, fault("a b"));
    due(1 + 8 * 2, fault("a not b"));
    due(1 + 8 * 2, fault("a [b]"));
    due(1 + 8, fault("a\tand b"));
    due(1 + 8 * 7, fault("a and  "));
    due(1 + 8 * 4, fault("a or"));
    due(1 + 8 * 5, fault("a or and b"));
    due(1 + 8 * 2, fault("[ ]"));
    due(1 + 8 * 2, fault("[a"));
    due(1 + 8 * 3, fault("[a]]"));
    due(1 + 8 * 3, fault("not"));
    due(1 + 8 * 2, fault("at"));
    due(1 + 8 * 2, fault("at]"));
    due(1 + 8 * 4, fault("at3 a"));
    due(1 + 8 * 3, fault("at3x"));
    due(1 + 8 * 4, fault("only"));
    due(1 + 8 * 5, fault("then then a"));
    due(1 + 8 * 10, fault("only then only a"));
    due(1 + 8 * 6, fault("a and only"));
    due(1, fault("onlya"));
    // 1: numbers.
    due(1 + 8 * 3 + 1, fault("at 8"));
    due(1 + 8 * 3 + 1, fault("at 9 ]"));
    due(1 + 8 * 2 + 1, fault("at07"));
    due(1 + 8 * 3 + 1, fault("at 1234567890123456789"));
    due(1 + 8 * 4, fault("at  -1"));
    // 2: too deep, brackets and nots together; ties on their own.
    due(1 + 8 * 10 + 2, fault("[[[[[[[[[[[a]]]]]]]]]]]"));
    due(1 + 8 * 10 + 2, fault("[[[[[[[[[[not a]]]]]]]]]]"));
    due(1 + 8 * 25 + 2, fault("not not not not not [[[[[[a"));
    due(1 + 8 * 8 + 2, fault("u v w x y a"));
    due(1 + 8 * 12 + 2, fault("u[v[w[not x z a]]]"));
    // 3: the 31st.
    StringBuilder thirty = new StringBuilder("a");
    for (int i = 1; i < 30; i++) {
      thirty.append(i % 3 == 0 ? " or me" : i % 3 == 1 ? " or at 7" : " and b");
    }
    due(1 + 8 * (thirty.length() + 4) + 3, fault(thirty + " or a"));
    due(1 + 8 * (thirty.length() + 4) + 3, fault(thirty + " or at 9"));
    due(1 + 8 * (thirty.length() + 4) + 3, fault(thirty + " or me"));
    due(1 + 8 * (thirty.length() + 1), fault(thirty + " a"));
    due(1 + 8 * (thirty.length() + 4), fault(thirty + " or k"));
    // What is no fault.
    NamelessPost x = new NamelessPost();
    due(0, cover(x, "[[[[[[[[[[a]]]]]]]]]]and[[[[[[[[[[a]]]]]]]]]]"));
    due(1, cover(x, "u v w x a or u v w x [ a and not b ]"));
    due(2, cover(x, thirty.toString()));
    due(3, cover(x, "then only a"));
    due(4, cover(x, "  at0and at 7or[me]  "));
    due(5, cover(x, "not u not v not w not x not not not not not not j"));
    due(6, cover(x, "only[z a]"));
  }

  private static void daysTold() {
    NamelessPost x = people(3, 3, 4);
    mark(x, 2, 0, 0);
    mark(x, 2, 0, 9);
    unmark(x, 4, 0, 0);
    x.change(2, 1, 0, 0, 2, true);
    x.change(2, 1, 0, 0, 1, true);
    x.change(5, 1, 0, 0, 2, false);
    move(x, 6, 0, 4);
    of(10);
    due(0, x.marks(0, 1));
    due(513, x.marks(0, 2));
    due(512, x.marks(0, 4));
    due(512, x.marks(0, 999));
    all(-1, x.marks(-1, 0), x.marks(3, 0), x.marks(0, -1), x.marks(0, 1000));
    of(11);
    due(0, x.ties(0, 0, 1));
    due(6, x.ties(0, 0, 2));
    due(2, x.ties(0, 0, 5));
    due(0, x.ties(0, 5, 5));
    due(0, x.ties(1, 0, 5));
    all(-1, x.ties(-1, 0, 0), x.ties(3, 0, 0), x.ties(0, -1, 0), x.ties(0, 6, 0), x.ties(0, 0, -1), x.ties(0, 0, 1000));
    of(12);
    due(3, x.lives(0, 5));
    due(4, x.lives(0, 6));
    all(-1, x.lives(-1, 0), x.lives(3, 0), x.lives(0, -1), x.lives(0, 1000));
    of(13);
    due(3, x.sees(0, 5));
    due(5, x.sees(0, 6));
    due(2, x.sees(1, 6));
    x.knows(1, 2, true);
    due(6, x.sees(1, 6));
    due(7, x.sees(1, 5));
    due(5, x.sees(2, 6));
    all(-1, x.sees(-1, 0), x.sees(3, 0), x.sees(0, -1), x.sees(0, 1000));
  }

  private static void far() {
    of(14);
    NamelessPost x = new NamelessPost();
    x.road(0, 1, 9);
    x.road(0, 2, 2);
    x.road(2, 3, 3);
    x.road(3, 1, 3);
    due(8, x.far(0, 1));
    due(8, x.far(1, 0));
    due(5, x.far(0, 3));
    due(0, x.far(5, 5));
    due(-2, x.far(0, 5));
    x.road(0, 3, 1);
    due(4, x.far(0, 1));
    all(-1, x.far(-1, 0), x.far(0, -1), x.far(8, 0), x.far(0, 8), x.far(MIN, MAX));
  }

  private static void fits() {
    of(15);
    NamelessPost x = people(0, 0, 1, 2);
    mark(x, 0, 1, 0);
    mark(x, 0, 2, 0);
    mark(x, 0, 3, 1);
    unmark(x, 5, 2, 0);
    x.change(0, 1, 3, 0, 1, true);
    x.change(0, 1, 0, 0, 3, true);
    x.change(0, 1, 1, 1, 0, true);
    move(x, 5, 3, 1);
    int a = cover(x, "a");
    int then = cover(x, "then a");
    int only = cover(x, "only a");
    int both = cover(x, "only then a");
    int mix = cover(x, "a and at 1 or b and not me");
    int uua = cover(x, "u u a");
    int at = cover(x, "then at 1");
    int bracket = cover(x, "not [ a or b ] or v me");
    due(6, x.fits(a, 0, 0, 5, -1));
    due(2, x.fits(a, 0, 5, 0, -1));
    due(2, x.fits(then, 0, 0, 5, -1));
    due(6, x.fits(then, 0, 5, 0, -1));
    due(0, x.fits(only, 0, 0, 9, -1));
    due(2, x.fits(only, 0, 5, 0, -1));
    due(2, x.fits(both, 0, 0, 5, -1));
    due(0, x.fits(both, 0, 0, 4, -1));
    due(12, x.fits(mix, 0, 0, 0, -1));
    due(4, x.fits(mix, 3, 0, 0, -1));
    due(1, x.fits(uua, 0, 0, 0, -1));
    due(4, x.fits(at, 0, 0, 4, -1));
    due(12, x.fits(at, 0, 0, 5, -1));
    due(3, x.fits(bracket, 0, 0, 0, -1));
    due(1, x.fits(bracket, 2, 0, 0, -1));
    all(-2, x.fits(-1, 0, 0, 0, -1), x.fits(8, 0, 0, 0, -1), x.fits(0, -1, 0, 0, -1), x.fits(0, 4, 0, 0, -1));
    all(-2, x.fits(0, 0, -1, 0, -1), x.fits(0, 0, 1000, 0, -1), x.fits(0, 0, 0, -1, -1), x.fits(0, 0, 0, 1000, -1));
    all(-2, x.fits(0, 0, 0, 0, -2), x.fits(0, 0, 0, 0, 4), x.fits(MAX, MAX, MAX, MAX, MAX));
  }

  private static void fitsSeen() {
    of(15);
    // 0 and 1 at place 0, 2 at place 1: 0 has tie u to 2, who has mark a.
    NamelessPost x = people(0, 0, 1);
    x.change(0, 1, 0, 0, 2, true);
    mark(x, 0, 2, 0);
    move(x, 3, 2, 0);
    int ua = cover(x, "u a");
    int notUa = cover(x, "not u a");
    int me = cover(x, "me");
    int onlyNotA = cover(x, "only not a");
    due(1, x.fits(ua, 0, 0, 0, -1));
    // 2 is not seen, so that nobody is known to have the tie to one with the mark.
    due(0, x.fits(ua, 0, 0, 0, 1));
    due(3, x.fits(notUa, 0, 0, 0, 1));
    due(4, x.fits(notUa, 0, 0, 0, 2));
    // Who is seen is of the day of reading, the facts of the day it was sent.
    due(1, x.fits(ua, 0, 0, 3, 1));
    due(6, x.fits(notUa, 0, 0, 3, 1));
    due(0, x.fits(me, 2, 0, 0, 1));
    due(4, x.fits(me, 2, 0, 3, 1));
    due(0, x.fits(onlyNotA, 0, 0, 0, 0));
    due(0, x.fits(onlyNotA, 0, 0, 0, 2));
    x.knows(1, 2, true);
    due(1, x.fits(ua, 0, 0, 0, 1));
    due(0, x.fits(ua, 0, 0, 0, 0));
    move(x, 0, 1, 2);
    due(2, x.fits(onlyNotA, 0, 0, 0, 1));
    // One alone, about whom nothing was told.
    x = people(0);
    due(0, cover(x, "me"));
    due(1, x.fits(0, 0, 0, 0, 0));
  }

  private static void asked() {
    of(16);
    // A square 0-1-3-2-0 of equal roads; 4 is apart.
    NamelessPost x = people(0, 0, 3, 4);
    x.road(0, 2, 2);
    x.road(0, 1, 2);
    x.road(1, 3, 2);
    x.road(2, 3, 2);
    mark(x, 0, 2, 0);
    mark(x, 0, 3, 1);
    mark(x, 0, 1, 2);
    int a = cover(x, "a");
    int b = cover(x, "b");
    int c = cover(x, "c");
    int ab = cover(x, "b or a");
    int notMe = cover(x, "not me and not c");
    // Nobody at 0 knows 2.
    all(2, x.asked(a, 0, 0, 0, 0, 0));
    all(-1, x.asked(a, 0, 0, 0, 0, 1), x.asked(a, 0, 0, 0, 0, 2));
    x.knows(1, 2, true);
    due(1, x.asked(a, 0, 0, 0, 0, 0));
    due(1, x.asked(a, 0, 0, 0, 0, 1));
    due(1, x.asked(a, 0, 0, 0, 0, 2));
    // 0 tells of 1, who is there; 1 is not asked.
    due(0, x.asked(c, 0, 0, 0, 0, 0));
    due(1, x.asked(c, 0, 0, 0, 0, 1));
    due(0, x.asked(c, 0, 0, 0, 0, 2));
    // No way to 3: as if it fitted nobody, the next one is asked.
    x.knows(0, 3, true);
    due(2, x.asked(b, 0, 0, 0, 0, 0));
    x.knows(1, 3, true);
    due(1, x.asked(ab, 0, 0, 0, 0, 0));
    due(1, x.asked(ab, 0, 0, 0, 0, 2));
    // Himself is ahead of lesser ones.
    due(0, x.asked(notMe, 1, 0, 0, 0, 0));
    due(0, x.asked(notMe, 1, 0, 0, 0, 1));
    due(2, x.asked(notMe, 1, 0, 0, 3, 1));
    // Where people are is as on the second day.
    move(x, 7, 2, 2);
    due(2, x.asked(a, 0, 0, 7, 0, 1));
    due(2, x.asked(a, 0, 0, 7, 3, 0));
    due(0, x.asked(a, 0, 0, 7, 2, 0));
    all(-2, x.asked(-1, 0, 0, 0, 0, 0), x.asked(5, 0, 0, 0, 0, 0), x.asked(a, -1, 0, 0, 0, 0), x.asked(a, 4, 0, 0, 0, 0));
    all(-2, x.asked(a, 0, -1, 0, 0, 0), x.asked(a, 0, 1000, 0, 0, 0), x.asked(a, 0, 0, -1, 0, 0), x.asked(a, 0, 0, 1000, 0, 0));
    all(-2, x.asked(a, 0, 0, 0, -1, 0), x.asked(a, 0, 0, 0, 8, 0), x.asked(a, 0, 0, 0, 0, -1), x.asked(a, 0, 0, 0, 0, 3));
  }

  private static void stale() {
    NamelessPost x = people(0, 0);
    mark(x, 0, 1, 0);
    mark(x, 99, 0, 0);
    unmark(x, 950, 0, 0);
    unmark(x, 999, 1, 0);
    int a = cover(x, "a");
    int then = cover(x, "then a");
    int onlyThen = cover(x, "only then a");
    of(17);
    due(-2, x.stale(a, 0, 1, 0));
    due(99, x.stale(then, 0, 1, 0));
    due(99, x.stale(then, 0, 1, 98));
    due(99, x.stale(a, 0, 1, 99));
    due(0, x.stale(then, 0, 0, 0));
    due(999, x.stale(then, 0, 1, 950));
    due(-2, x.stale(a, 0, 1, 998));
    due(999, x.stale(then, 0, 1, 998));
    due(999, x.stale(then, 0, 1, 999));
    due(99, x.stale(onlyThen, 0, 1, 0));
    due(-1, x.stale(a, 0, 2, 0));
    all(-1, x.stale(3, 0, 1, 0), x.stale(-1, 0, 1, 0), x.stale(a, 2, 1, 0), x.stale(a, -1, 1, 0));
    all(-1, x.stale(a, 0, -1, 0), x.stale(a, 0, 1, -1), x.stale(a, 0, 1, 1000));
    of(32);
    due(100, x.alone(a, 0, 1, 0));
    due(99, x.alone(then, 0, 1, 0));
    due(1, x.alone(then, 0, 1, 98));
    due(49, x.alone(then, 0, 1, 950));
    due(2, x.alone(a, 0, 1, 998));
    due(50, x.alone(a, 0, 1, 950));
    due(0, x.alone(a, 0, 1, 999));
    due(99, x.alone(onlyThen, 0, 1, 0));
    all(-1, x.alone(3, 0, 1, 0), x.alone(-1, 0, 1, 0), x.alone(a, 2, 1, 0), x.alone(a, -1, 1, 0));
    all(-1, x.alone(a, 0, 2, 0), x.alone(a, 0, -1, 0), x.alone(a, 0, 1, -1), x.alone(a, 0, 1, 1000));

    // Not one day more than 99 behind it.
    x = people(0, 0);
    mark(x, 0, 1, 0);
    mark(x, 100, 0, 0);
    then = cover(x, "then a");
    of(17);
    due(-2, x.stale(then, 0, 1, 0));
    due(100, x.stale(then, 0, 1, 1));
    of(32);
    due(100, x.alone(then, 0, 1, 0));
    due(99, x.alone(then, 0, 1, 1));
  }

  private static void letters() {
    NamelessPost x = people(0, 1, 2, 2);
    x.road(0, 1, 3);
    x.road(0, 2, 3);
    x.road(1, 2, 1);
    x.road(2, 3, 2);
    mark(x, 0, 3, 0);
    int a = cover(x, "a");
    of(18);
    all(-1, x.letter(-1, a, 3, 0), x.letter(4, a, 3, 0), x.letter(0, -1, 3, 0), x.letter(0, 1, 3, 0));
    all(-1, x.letter(0, a, -1, 0), x.letter(0, a, 4, 0), x.letter(0, a, 0, 0), x.letter(0, a, 3, -1), x.letter(0, a, 3, 8));
    due(0, x.count(4));
    due(0, x.letter(0, a, 3, 0));
    due(1, x.letter(0, a, 2, 2));
    due(2, x.letter(0, a, 3, 7));
    due(3, x.count(4));
    of(20);
    due(0, x.letters(0, 0));
    due(0, x.letters(0, 1));
    due(0, x.letters(0, 2));
    due(-1, x.letters(0, 3));
    due(0, x.letters(0, 4));
    due(1, x.letters(0, 5));
    of(19);
    all(-1, x.days(0), x.days(-1), x.days(61), x.days(MAX), x.days(MIN));
    due(0, x.count(7));
    due(3, x.count(5));
    due(1, x.days(1));
    due(1, x.count(7));
    // Nobody at 0 can tell: 1 and 2 are as near, so it goes to 1.
    of(20);
    due(0, x.letters(0, 0));
    due(1, x.letters(0, 1));
    due(3, x.letters(0, 2));
    due(3, x.letters(0, 5));
    // 2 at place 2 tells of 3, who is there: opened, but not right.
    due(1, x.letters(1, 0));
    due(2, x.letters(1, 1));
    due(0, x.letters(1, 2));
    due(3, x.letters(1, 3));
    due(0, x.letters(1, 4));
    due(4, x.letters(1, 5));
    due(2, x.letters(2, 0));
    due(7, x.letters(2, 1));
    of(19);
    due(1, x.days(2));
    due(3, x.letters(0, 2));
    due(1, x.days(1));
    due(2, x.letters(0, 1));
    due(4, x.letters(0, 2));
    due(0, x.days(1));
    of(20);
    due(1, x.letters(0, 0));
    due(3, x.letters(0, 3));
    due(1, x.letters(0, 4));
    due(7, x.letters(0, 5));
    due(4, x.letters(0, 2));
    all(-2, x.letters(-1, 0), x.letters(3, 0), x.letters(0, -1), x.letters(0, 6), x.letters(MAX, MIN));
    of(38);
    due(1, x.count(6));
    due(0, x.count(5));
    due(5, x.count(7));
    of(18);
    for (int i = 3; i < 8; i++) {
      due(i, x.letter(0, a, 3, 2));
    }
    due(-1, x.letter(0, a, 3, 2));
    due(8, x.count(4));
    due(5, x.letters(7, 2));
    of(19);
    due(0, x.days(60));
    due(6, x.count(6));
  }

  private static void lettersAtTheEnd() {
    of(19);
    NamelessPost x = people(0, 1);
    x.road(0, 1, 9);
    int a = cover(x, "a");
    for (int i = 0; i < 16; i++) {
      due(0, x.days(60));
    }
    due(960, x.count(7));
    due(-1, x.days(40));
    due(960, x.count(7));
    due(0, x.days(38));
    due(998, x.count(7));
    x.letter(0, a, 1, 0);
    due(1, x.days(1));
    due(-1, x.days(1));
    due(999, x.count(7));
    of(20);
    due(0, x.letters(0, 0));
    due(1, x.letters(0, 1));
    due(1007, x.letters(0, 2));
    of(18);
    due(1, x.letter(0, a, 1, 0));
    due(999, x.letters(1, 2));
  }

  private static void sure() {
    of(21);
    // 0 at place 0 knows 1 at place 1 and 2 at place 2, both with mark a.
    NamelessPost x = people(0, 1, 2);
    x.road(0, 1, 2);
    x.road(0, 2, 5);
    mark(x, 0, 1, 0);
    mark(x, 0, 2, 0);
    int a = cover(x, "a");
    due(0, x.sure(0, a, 1, 0, 0, 0));
    due(-2, x.sure(0, a, 1, 0, 0, 1));
    x.knows(0, 1, true);
    due(1, x.sure(0, a, 1, 0, 0, 0));
    due(2, x.sure(0, a, 1, 0, 0, 1));
    x.knows(0, 2, true);
    due(0, x.sure(0, a, 1, 0, 0, 0));
    due(2, x.sure(0, a, 1, 0, 0, 1));
    due(0, x.sure(0, a, 2, 0, 0, 0));
    due(5, x.sure(0, a, 2, 0, 0, 1));
    due(1, x.sure(0, a, 2, 2, 0, 0));
    due(0, x.sure(0, a, 2, 2, 0, 1));
    due(-2, x.sure(0, a, 1, 2, 0, 1));
    // Beyond day 999 all is as on it.
    due(5, x.sure(0, a, 2, 0, 998, 1));
    // One without a way can't be chosen; where nobody can tell it stays.
    move(x, 10, 2, 7);
    due(1, x.sure(0, a, 1, 0, 10, 0));
    due(-2, x.sure(0, a, 2, 0, 10, 1));
    due(0, x.sure(0, a, 1, 5, 0, 0));
    all(-1, x.sure(-1, a, 1, 0, 0, 0), x.sure(3, a, 1, 0, 0, 0), x.sure(0, -1, 1, 0, 0, 0), x.sure(0, 1, 1, 0, 0, 0));
    all(-1, x.sure(0, a, 0, 0, 0, 0), x.sure(0, a, 3, 0, 0, 0), x.sure(0, a, 1, -1, 0, 0), x.sure(0, a, 1, 8, 0, 0));
    all(-1, x.sure(0, a, 1, 0, -1, 0), x.sure(0, a, 1, 0, 1000, 0), x.sure(0, a, 1, 0, 0, -1), x.sure(0, a, 1, 0, 0, 2));

    due(60, longWay(6, 1));
    due(-2, longWay(7, 1));
    due(60, pingPong(60));
    due(-2, pingPong(61));
  }

  /** A letter to and fro between 0 and 1 until, on a day, the one it is for has the mark. */
  private static int pingPong(int day) {
    NamelessPost x = ring(1);
    mark(x, day, 4, 0);
    move(x, day, 4, 0);
    for (int i = 0; i < 4; i++) {
      unmark(x, day, i, 0);
    }
    return x.sure(1, 0, 4, 0, 0, 1);
  }

  private static void rings() {
    of(22);
    NamelessPost x = ring(4);
    due(3, x.rings(0, 1, 0, 0));
    due(8, x.rings(0, 1, 0, 1));
    due(3, x.rings(0, 1, 999, 0));
    unmark(x, 5, 2, 0);
    due(3, x.rings(0, 1, 4, 0));
    due(0, x.rings(0, 1, 5, 0));
    due(0, x.rings(0, 1, 5, 1));
    // A second ring, shorter: 5 at 4, 6 at 5, as above, towards 6 (the place).
    x = ring(4);
    x.person(4);
    x.person(4);
    x.person(5);
    x.person(6);
    x.road(4, 5, 3);
    x.road(5, 6, 1);
    mark(x, 0, 6, 0);
    mark(x, 0, 4, 0);
    move(x, 0, 4, 6);
    x.knows(5, 4, true);
    x.knows(7, 6, true);
    due(3 + 48, x.rings(0, 1, 0, 0));
    due(6, x.rings(0, 1, 0, 1));
    all(-1, x.rings(-1, 1, 0, 0), x.rings(1, 1, 0, 0), x.rings(0, -1, 0, 0), x.rings(0, 9, 0, 0));
    all(-1, x.rings(0, 1, -1, 0), x.rings(0, 1, 1000, 0), x.rings(0, 1, 0, -1), x.rings(0, 1, 0, 2));
  }

  private static void judged() {
    of(23);
    NamelessPost x = ring(4);
    all(-2, x.told(8), x.told(-2), x.told(MAX), x.told(MIN));
    due(0, x.told(-1));
    for (int i = 1; i <= 20; i++) {
      due(i, x.told(i % 2));
    }
    due(-2, x.told(0));
    due(20, x.count(8));
    of(24);
    due(-2, x.judged(0, 1, 0, 0));
    due(0, x.judged(0, 1, 1, 0));
    due(-2, x.judged(0, 1, 0, 999 - 80));
    due(19, x.judged(0, 1, 0, 999 - 79));
    due(0, x.judged(0, 1, 0, 999));
    unmark(x, 8, 2, 0);
    unmark(x, 8, 0, 0);
    // Nobody can tell from day 8 on: at 0, both PLACES were gone to; it is sent back.
    due(2, x.judged(0, 1, 0, 0));
    of(23);
    due(0, x.told(-1));
    due(0, x.count(8));
    due(1, x.told(1));
    of(24);
    due(-2, x.judged(0, 1, 0, 0));
    all(-1, x.judged(-1, 1, 0, 0), x.judged(1, 1, 0, 0), x.judged(0, -1, 0, 0), x.judged(0, 5, 0, 0));
    all(-1, x.judged(0, 1, -1, 0), x.judged(0, 1, 8, 0), x.judged(0, 1, 0, -1), x.judged(0, 1, 0, 1000));
    // Opened where it is sent: it does not go at all.
    due(0, x.judged(0, 1, 2, 0));
  }

  private static void cheapest() {
    of(25);
    NamelessPost x = people(0, 0, 0);
    x.change(0, 1, 1, 2, 0, true);
    x.change(0, 1, 1, 3, 2, true);
    mark(x, 0, 2, 5);
    mark(x, 0, 1, 5);
    unmark(x, 3, 1, 5);
    // Tie w (12) to 0 is 1's alone; the tie to 2 is no word.
    due(1, x.cheapest(0, 1, 0, 5, 0));
    due(1 << 12, x.cheapest(0, 1, 0, 5, 1));
    due(0, x.cheapest(0, 1, 0, 5, 2));
    due(-2, x.cheapest(0, 1, 0, 5, 3));
    due(-2, x.cheapest(0, 1, 0, 5, 4));
    // For sender 2 it is tie x (13).
    due(1 << 13, x.cheapest(2, 1, 0, 5, 1));
    // Mark f of 1 holds on days 0 to 2 alone; dear ties make it worth while.
    x.worth(12, 50);
    x.worth(5, 7);
    mark(x, 0, 0, 1);
    mark(x, 0, 2, 1);
    due(2, x.cheapest(0, 1, 0, 5, 0));
    due(2, x.cheapest(0, 1, 0, 5, 1));
    due(2, x.cheapest(0, 1, 0, 5, 2));
    x.worth(16, 99);
    due(50, x.cheapest(0, 1, 0, 5, 0));
    due(4096, x.cheapest(0, 1, 0, 5, 1));
    // The fewest words ahead of the least bits, when all is for nothing.
    for (int i = 0; i <= 16; i++) {
      x.worth(i, 0);
    }
    due(0, x.cheapest(0, 1, 0, 5, 0));
    due(2, x.cheapest(0, 1, 0, 5, 1));
    mark(x, 0, 1, 1);
    due(0, x.cheapest(0, 1, 0, 5, 0));
    due(4096, x.cheapest(0, 1, 0, 5, 1));
    x.change(2, 1, 1, 2, 0, false);
    // From day 2 on nothing stands by which 1 is another than 0 on all days.
    due(-2, x.cheapest(0, 1, 1, 5, 0));
    due(-2, x.cheapest(0, 1, 1, 5, 2));
    due(1, x.cheapest(0, 1, 1, 5, 3));
    due(0, x.cheapest(0, 1, 1, 5, 4));
    due(-2, x.cheapest(0, 1, 0, 1, 4));
    due(0, x.cheapest(0, 1, 0, 1, 0));
    due(2, x.cheapest(0, 2, 0, 5, 3));
    due(1, x.cheapest(0, 2, 0, 5, 4));
    due(0, x.cheapest(0, 2, 3, 33, 0));
    due(32, x.cheapest(0, 2, 3, 33, 1));
    due(0, x.cheapest(0, 2, 969, 999, 0));
    due(-1, x.cheapest(0, 2, 3, 34, 0));
    due(-1, x.cheapest(0, 2, 970, 1000, 0));
    all(-1, x.cheapest(-1, 1, 0, 0, 0), x.cheapest(3, 1, 0, 0, 0), x.cheapest(0, -1, 0, 0, 0), x.cheapest(0, 3, 0, 0, 0));
    all(-1, x.cheapest(1, 1, 0, 0, 0), x.cheapest(0, 1, -1, 0, 0), x.cheapest(0, 1, 1, 0, 0), x.cheapest(0, 1, 0, 0, -1));
    all(-1, x.cheapest(0, 1, 0, 0, 5), x.cheapest(0, 1, MIN, MAX, 0), x.cheapest(0, 1, MAX, MIN, 0));
  }

  private static void apart() {
    of(26);
    NamelessPost x = people(0, 0, 0, 0);
    due(-2, x.apart(0, 0, 0));
    due(0, x.apart(0, 0, 1));
    // Numbers of two digits by marks c and j, told once more by d and e and f.
    mark(x, 0, 1, 2);
    mark(x, 0, 2, 9);
    mark(x, 0, 3, 2);
    mark(x, 0, 3, 9);
    due(4 + 512, x.apart(0, 30, 0));
    due(4 + 512, x.apart(0, 30, 1));
    mark(x, 5, 1, 0);
    mark(x, 5, 3, 0);
    due(4 + 512, x.apart(0, 5, 0));
    due(1 + 512, x.apart(5, 5, 0));
    due(512, x.apart(5, 5, 1));
    due(4 + 512, x.apart(4, 5, 1));
    unmark(x, 7, 3, 9);
    due(-2, x.apart(0, 7, 0));
    due(-2, x.apart(7, 7, 0));
    due(1 + 512, x.apart(6, 6, 0));
    due(-1, x.apart(0, 31, 0));
    due(-2, x.apart(969, 999, 0));
    all(-1, x.apart(-1, 0, 0), x.apart(1, 0, 0), x.apart(999, 1000, 0), x.apart(0, 0, -1), x.apart(0, 0, 2));
    all(-1, x.apart(MIN, MAX, 0), x.apart(MAX, MIN, 0));
    x = people(3);
    due(0, x.apart(0, 0, 0));
    due(0, x.apart(0, 0, 1));
  }

  private static void ends() {
    of(27);
    NamelessPost x = ring(1);
    // Round and round: 100 goings.
    due(0, x.ends(1, 0, 0, 0, 0));
    due(-1, x.ends(1, 0, 0, 0, 1));
    due(100, x.ends(1, 0, 0, 0, 2));
    due(0, x.ends(1, 0, 0, 0, 3));
    due(100, x.ends(1, 0, 0, 0, 4));
    // Not beyond day 999.
    due(0, x.ends(1, 0, 0, 950, 0));
    due(999, x.ends(1, 0, 0, 950, 2));
    due(1, x.ends(1, 0, 0, 950, 3));
    due(49, x.ends(1, 0, 0, 950, 4));
    due(0, x.ends(1, 0, 0, 999, 4));
    due(0, x.ends(1, 0, 0, 999, 0));
    // Opened at once; sent back at once.
    due(1, x.ends(1, 0, 2, 999, 0));
    due(0, x.ends(1, 0, 2, 999, 1));
    due(999, x.ends(1, 0, 2, 999, 2));
    due(2, x.ends(1, 0, 2, 999, 3));
    due(0, x.ends(1, 0, 2, 999, 4));
    due(2, x.ends(1, 0, 7, 3, 0));
    due(-1, x.ends(1, 0, 7, 3, 1));
    due(3, x.ends(1, 0, 7, 3, 2));
    due(7, x.ends(1, 0, 7, 3, 3));
    // From day 6 on 1 knows of nobody beyond the two: 2 opens it, at place 0.
    unmark(x, 6, 0, 0);
    due(1, x.ends(1, 0, 0, 0, 0));
    due(2, x.ends(1, 0, 0, 0, 1));
    due(6, x.ends(1, 0, 0, 0, 2));
    due(0, x.ends(1, 0, 0, 0, 3));
    due(6, x.ends(1, 0, 0, 0, 4));
    all(-2, x.ends(-1, 0, 0, 0, 0), x.ends(5, 0, 0, 0, 0), x.ends(0, -1, 0, 0, 0), x.ends(0, 1, 0, 0, 0));
    all(-2, x.ends(0, 0, -1, 0, 0), x.ends(0, 0, 8, 0, 0), x.ends(0, 0, 0, -1, 0), x.ends(0, 0, 0, 1000, 0));
    all(-2, x.ends(0, 0, 0, 0, -1), x.ends(0, 0, 0, 0, 5));
    due(0, x.count(4));
  }

  private static void needs() {
    of(28);
    // In a line 0 - 1 - 2 - 3 with nobody at 2; the mark is of 3, at place 3.
    NamelessPost x = people(0, 1, 1, 3);
    x.road(0, 1, 1);
    x.road(1, 2, 9);
    x.road(2, 3, 9);
    x.road(0, 7, 1);
    x.road(1, 6, 1);
    x.road(6, 5, 1);
    mark(x, 0, 3, 0);
    int a = cover(x, "a");
    // From 0 it goes to 1 by itself (of 1 and 7 the least); there 1, or 2, would have to know 3,
    // but at 2 nobody is asked, and 3 is the one place left: one two does it.
    due(1, x.needs(0, a, 3, 0, 0, 0));
    due(12 + 3, x.needs(0, a, 3, 0, 0, 1));
    due(-2, x.needs(0, a, 3, 0, 0, 2));
    x.knows(1, 3, true);
    due(0, x.needs(0, a, 3, 0, 0, 0));
    due(-2, x.needs(0, a, 3, 0, 0, 1));
    due(-2, x.needs(0, a, 3, 0, 0, 2));
    due(-2, x.needs(0, a, 2, 0, 0, 0));
    due(-2, x.needs(0, a, 2, 0, 0, 1));
    due(-1, x.needs(0, a, 0, 0, 0, 0));
    all(-1, x.needs(-1, a, 3, 0, 0, 0), x.needs(4, a, 3, 0, 0, 0), x.needs(0, -1, 3, 0, 0, 0), x.needs(0, 1, 3, 0, 0, 0));
    all(-1, x.needs(0, a, -1, 0, 0, 0), x.needs(0, a, 4, 0, 0, 0), x.needs(0, a, 3, -1, 0, 0), x.needs(0, a, 3, 8, 0, 0));
    all(-1, x.needs(0, a, 3, 0, -1, 0), x.needs(0, a, 3, 0, 1000, 0), x.needs(0, a, 3, 0, 0, -1), x.needs(0, a, 3, 0, 0, 3));

    // Two are needed: u a, with the one who has the tie and the one with the mark both far off.
    x = people(0, 3, 4);
    x.road(0, 3, 1);
    x.road(0, 1, 1);
    x.change(0, 1, 1, 0, 2, true);
    mark(x, 0, 2, 0);
    int ua = cover(x, "u a");
    due(-2, x.needs(0, ua, 1, 0, 0, 0));
    due(-2, x.needs(0, ua, 1, 0, 0, 1));
    x.knows(1, 2, true);
    due(2, x.needs(0, ua, 1, 0, 0, 0));
    due(1, x.needs(0, ua, 1, 0, 0, 1));
    due(2, x.needs(0, ua, 1, 0, 0, 2));
    due(false, x.knows(0, 1, false));
    due(1, x.sees(0, 0));
    x.knows(0, 2, true);
    due(1, x.needs(0, ua, 1, 0, 0, 0));
    due(1, x.needs(0, ua, 1, 0, 0, 1));
    due(-2, x.needs(0, ua, 2, 0, 0, 0));

    // Nobody beyond the two can be known, nor one himself: not even 12 and 13 would help.
    x = people(0, 3);
    int notMe = cover(x, "not me and not a");
    x.road(0, 1, 1);
    mark(x, 0, 1, 0);
    due(-2, x.needs(0, notMe, 1, 0, 0, 0));
    // To know less would help here, but is no need.
    x = people(0, 1, 2);
    x.road(0, 1, 1);
    x.road(0, 2, 1);
    mark(x, 0, 1, 0);
    mark(x, 0, 2, 0);
    x.knows(0, 1, true);
    x.knows(0, 2, true);
    a = cover(x, "a");
    due(0, x.needs(0, a, 1, 0, 0, 0));
    due(-2, x.needs(0, a, 2, 0, 0, 0));
  }

  private static void mends() {
    of(29);
    NamelessPost x = people(0, 0, 0);
    mark(x, 0, 0, 0);
    mark(x, 0, 1, 0);
    mark(x, 0, 1, 1);
    mark(x, 0, 2, 2);
    x.change(0, 1, 1, 5, 2, true);
    int a = cover(x, "a");
    int only = cover(x, "only a");
    int all = cover(x, "a or not a");
    int c = cover(x, "then c");
    due(1, x.mends(a, 2, 1, 0));
    due(1, x.mends(only, 2, 1, 0));
    due(17, x.mends(a, 2, 0, 0));
    due(-2, x.mends(a, 2, 2, 0));
    due(32, x.mends(c, 0, 2, 0));
    due(1, x.mends(all, 2, 1, 0));
    due(2, x.mends(all, 2, 2, 0));
    due(-2, x.mends(all, 0, 0, 0));
    x.worth(1, 3);
    due(15, x.mends(a, 2, 1, 0));
    due(1, x.mends(a, 0, 1, 0));
    x.worth(15, 3);
    due(1, x.mends(a, 2, 1, 0));
    due(17, x.mends(a, 2, 0, 0));
    x.worth(15, 2);
    due(31, x.mends(a, 2, 0, 0));
    x.worth(2, 0);
    x.worth(16, 0);
    due(2, x.mends(all, 0, 2, 0));
    mark(x, 0, 2, 3);
    x.worth(3, 0);
    due(2, x.mends(all, 0, 2, 0));
    x.worth(2, 1);
    due(3, x.mends(all, 0, 2, 0));
    x.worth(0, 0);
    x.worth(3, 1);
    due(16, x.mends(all, 0, 2, 0));
    // For none, and as on the day.
    move(x, 0, 2, 7);
    due(16, x.mends(all, 0, 2, 0));
    unmark(x, 5, 1, 0);
    due(32, x.mends(a, 0, 0, 5));
    all(-1, x.mends(-1, 0, 0, 0), x.mends(4, 0, 0, 0), x.mends(0, -1, 0, 0), x.mends(0, 3, 0, 0));
    all(-1, x.mends(0, 0, -1, 0), x.mends(0, 0, 3, 0), x.mends(0, 0, 0, -1), x.mends(0, 0, 0, 1000));
  }

  private static void readers() {
    NamelessPost x = people(0, 0, 1, 2);
    mark(x, 0, 1, 0);
    mark(x, 0, 2, 0);
    move(x, 4, 2, 0);
    x.change(0, 1, 3, 0, 0, true);
    int a = cover(x, "a");
    int only = cover(x, "only a");
    int ume = cover(x, "u me");
    int not = cover(x, "not u me");
    of(30);
    due(7, x.tellers(a, 0, 0));
    due(7, x.tellers(only, 0, 0));
    due(0, x.tellers(only, 0, 4));
    due(0, x.tellers(ume, 0, 0));
    x.knows(3, 0, true);
    due(8, x.tellers(ume, 0, 0));
    due(15, x.tellers(not, 0, 0));
    all(-1, x.tellers(-1, 0, 0), x.tellers(4, 0, 0), x.tellers(0, -1, 0), x.tellers(0, 4, 0), x.tellers(0, 0, -1), x.tellers(0, 0, 1000));
    of(31);
    due(0, x.lied(a, 0, 0));
    due(7, x.lied(only, 0, 0));
    due(0, x.lied(only, 0, 4));
    due(0, x.lied(ume, 0, 0));
    x.knows(3, 0, false);
    due(8, x.lied(ume, 0, 0));
    due(8, x.lied(not, 0, 0));
    all(-1, x.lied(-1, 0, 0), x.lied(4, 0, 0), x.lied(0, -1, 0), x.lied(0, 4, 0), x.lied(0, 0, -1), x.lied(0, 0, 1000));
  }

  private static void acquaintance() {
    NamelessPost x = people(0, 1, 2, 3, 4, 5, 6, 7, 0, 1, 2, 3);
    for (int i = 0; i < 11; i++) {
      x.knows(i, i + 1, true);
    }
    of(33);
    due(11, x.chain(0, 11));
    due(-2, x.chain(11, 0));
    due(0, x.chain(5, 5));
    x.knows(2, 9, true);
    due(5, x.chain(0, 11));
    all(-1, x.chain(-1, 0), x.chain(12, 0), x.chain(0, -1), x.chain(0, 12));
    of(34);
    due(4095, x.circle(0));
    due(2048, x.circle(11));
    due(4095 - 255, x.circle(8));
    x.knows(11, 8, true);
    due(4095 - 255, x.circle(10));
    all(-1, x.circle(-1), x.circle(12), x.circle(MAX));
    of(35);
    // 66 twos, without 13 who know, without 0+8, 1+9, 2+10, 3+11 at one place.
    due(66 - 13 - 4, x.strangers(0));
    move(x, 5, 4, 5);
    due(66 - 13 - 4, x.strangers(5));
    move(x, 6, 4, 6);
    due(66 - 13 - 5, x.strangers(6));
    all(-1, x.strangers(-1), x.strangers(1000), x.strangers(MIN));
  }

  private static void copies() {
    of(36);
    NamelessPost x = people(0, 1, 2);
    x.road(0, 2, 4);
    x.road(1, 2, 4);
    mark(x, 0, 2, 0);
    int a = cover(x, "a");
    x.knows(0, 2, true);
    x.knows(1, 2, true);
    due(2, x.copies(0, a, 2, 0, 1, 7, 0));
    due(11, x.copies(0, a, 2, 0, 1, 7, 1));
    due(2, x.copies(0, a, 2, 0, 0, 7, 0));
    due(0, x.copies(0, a, 2, 2, 1, 7, 0));
    due(7, x.copies(0, a, 2, 2, 1, 7, 1));
    due(1, x.copies(0, a, 2, 0, 2, 7, 0));
    due(7, x.copies(0, a, 2, 0, 2, 7, 1));
    due(0, x.copies(0, a, 2, 0, 7, 7, 0));
    due(11, x.copies(0, a, 2, 0, 7, 7, 1));
    due(1, x.copies(0, a, 2, 7, 0, 7, 0));
    due(11, x.copies(0, a, 2, 7, 0, 7, 1));
    due(-2, x.copies(0, a, 2, 7, 6, 7, 0));
    due(-2, x.copies(0, a, 2, 7, 6, 7, 1));
    due(-2, x.copies(0, a, 1, 0, 1, 7, 0));
    due(-2, x.copies(0, a, 2, 0, 1, 996, 1));
    due(999, x.copies(0, a, 2, 0, 1, 995, 1));
    all(-1, x.copies(-1, a, 2, 0, 1, 7, 0), x.copies(3, a, 2, 0, 1, 7, 0), x.copies(0, -1, 2, 0, 1, 7, 0), x.copies(0, 1, 2, 0, 1, 7, 0));
    all(-1, x.copies(0, a, 0, 0, 1, 7, 0), x.copies(0, a, 3, 0, 1, 7, 0), x.copies(0, a, 2, -1, 1, 7, 0), x.copies(0, a, 2, 8, 1, 7, 0));
    all(-1, x.copies(0, a, 2, 0, -1, 7, 0), x.copies(0, a, 2, 0, 8, 7, 0), x.copies(0, a, 2, 0, 1, -1, 0), x.copies(0, a, 2, 0, 1, 1000, 0));
    all(-1, x.copies(0, a, 2, 0, 1, 7, -1), x.copies(0, a, 2, 0, 1, 7, 2));
  }

  private static void often() {
    of(37);
    NamelessPost x = people(0, 1, 2);
    mark(x, 0, 1, 0);
    mark(x, 0, 2, 0);
    int a = cover(x, "a");
    x.letter(0, a, 1, 2);
    due(-2, x.often());
    x.days(1);
    due(2, x.often());
    x.letter(0, a, 1, 1);
    x.days(1);
    due(1, x.often());
    x.letter(0, a, 1, 2);
    x.letter(0, a, 1, 5);
    x.days(1);
    due(2, x.often());
    // Two each: the least. Then as many letters as there can be.
    x.letter(0, a, 1, 1);
    x.days(1);
    due(1, x.often());
    x.image(0);
    x.letter(0, a, 1, 2);
    x.letter(0, a, 1, 2);
    x.letter(0, a, 1, 2);
    x.days(1);
    due(8, x.count(4));
    due(2, x.often());
    x.back(0);
    due(1, x.often());
  }

  private static void images() {
    of(39);
    NamelessPost x = people(0, 1);
    x.road(0, 1, 3);
    mark(x, 0, 1, 0);
    int a = cover(x, "a");
    x.knows(0, 1, true);
    x.worth(3, 7);
    x.worth(15, 4);
    x.worth(16, 5);
    x.told(5);
    x.letter(0, a, 1, 0);
    x.days(2);
    all(-1, x.image(-1), x.image(4), x.image(MAX), x.image(MIN));
    due(2, x.image(0));
    x.person(2);
    x.road(0, 2, 1);
    mark(x, 0, 0, 0);
    x.knows(0, 1, false);
    x.worth(3, 8);
    x.worth(15, 8);
    x.worth(16, 8);
    x.told(6);
    x.letter(0, a, 1, 1);
    cover(x, "b");
    feed(x, "abc");
    x.days(4);
    due(6, x.image(3));
    of(40);
    all(-1, x.back(1), x.back(2), x.back(-1), x.back(4), x.back(MIN));
    due(6, x.count(7));
    due(2, x.back(0));
    int[] counts = {2, 1, 1, 2, 1, 1, 0, 2, 1, 3};
    for (int what = 0; what < 10; what++) {
      due(counts[what], x.count(what));
    }
    due(-2, x.far(0, 2));
    due(0, x.marks(0, 0));
    due(3, x.sees(0, 0));
    due(7, x.worth(3, 9));
    due(4, x.worth(15, 9));
    due(5, x.worth(16, 9));
    due(2, x.fits(a, 0, 0, 0, -1));
    due(0, x.letters(0, 0));
    due(1, x.letters(0, 1));
    due(3, x.letters(0, 2));
    due(3, x.letters(0, 5));
    due(0, x.days(2));
    due(1, x.letters(0, 4));
    due(6, x.back(3));
    due(3, x.count(0));
    due(1, x.far(0, 2));
    due(1, x.marks(0, 0));
    due(8, x.worth(3, 1));
    due(2, x.count(4));
    // An image stays as it was when it is gone back to and all goes on from there.
    due(2, x.back(0));
    due(7, x.worth(3, 7));
    due(0, x.letters(0, 0));
    of(39);
    x.person(7);
    due(2, x.image(0));
    due(2, x.back(0));
    due(3, x.count(0));
    due(7, x.lives(2, 0));
  }

  /** Every call with numbers from far beyond, in a new and in a full object. */
  private static void neverThrows() {
    of(0);
    int[] odd = {MIN, MIN + 1, -1000, -2, -1, 0, 1, 7, 8, 11, 12, 16, 17, 31, 60, 400, 999, 1000, MAX - 1, MAX};
    for (NamelessPost x : new NamelessPost[] {new NamelessPost(), ring(9)}) {
      for (int n : odd) {
        for (int m : new int[] {0, n}) {
          x.road(m, n, n); x.person(n); x.change(m, 0, 0, n, n, true); x.change(m, n, m, n, n, true); x.knows(m, n, true);
          x.worth(m, n); x.feed(n, n, n, n, n); x.end(n); x.cover(); x.marks(m, n); x.ties(m, n, m); x.lives(m, n); x.sees(m, n);
          x.far(m, n); x.fits(m, m, n, m, n); x.asked(m, m, m, n, m, m); x.stale(m, m, m, n); x.letter(1, m, m, n); x.days(n);
          x.letters(m, n); x.sure(1, m, m, n, m, m); x.rings(m, m, n, m); x.told(n); x.judged(m, m, n, m); x.judged(m, m, m, n);
          x.cheapest(1, m, n, n, m); x.apart(n, m, m); x.apart(n, n, m); x.ends(m, m, n, m, m); x.needs(1, m, m, m, n, m);
          x.mends(m, m, m, n); x.tellers(m, m, n); x.lied(m, m, n); x.alone(m, m, m, n); x.chain(m, n); x.circle(n); x.strangers(n);
          x.copies(1, m, m, m, n, m, m); x.often(); x.count(n); x.image(n); x.back(n);
        }
      }
    }
  }
}
