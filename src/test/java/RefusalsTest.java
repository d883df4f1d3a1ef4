import java.util.ArrayList;
import java.util.List;
import java.util.function.Consumer;

/**
 * Every number that a call takes, on both sides of each of its ends; and that a call that is
 * refused, or that only asks, leaves all as it was.
 *
 * <p>No call answers what it is refused with to numbers that are as told, so that an answer tells
 * by itself whether a call was refused.
 */
public final class RefusalsTest extends Told {
  private static final int PEOPLE = 4;
  private static final int COVERS = 3;
  private static final int LETTERS = 3;
  private static final int TAPE = 6;
  private static final int NOW = 7;
  private static final int LOOKS = 6;

  /** The least and the greatest number that is as told, and one with which others are tried. */
  private record Range(int least, int base, int greatest) {}

  private static final Range PERSON = new Range(0, 1, PEOPLE - 1);
  private static final Range OTHER = new Range(0, 2, PEOPLE - 1);
  private static final Range PLACE = new Range(0, 1, 7);
  private static final Range OTHER_PLACE = new Range(0, 5, 7);
  private static final Range DAY = new Range(0, 3, 999);
  private static final Range COVER = new Range(0, 1, COVERS - 1);
  private static final Range READER = new Range(-1, 1, PEOPLE - 1);
  private static final Range TIE = new Range(0, 2, 5);
  private static final Range ANY = new Range(MIN, 0, MAX);

  public static void main(String[] args) {
    told();
    days();
    letters();
    spans();
    others();
    notTwo();
    full();
    neverMade();
    asking();
    finish();
  }

  private static Range what(int greatest) {
    return new Range(0, 0, greatest);
  }

  /** A number that stays as it is while others are tried. */
  private static Range only(int number) {
    return new Range(number, number, number);
  }

  // ---- the post that calls are tried on ----

  /** Something of everything: letters under way, opened and sent back, a way, two images, a tape. */
  private static NamelessPost post() {
    NamelessPost x = people(0, 1, 2, 7);
    x.road(0, 1, 2);
    x.road(1, 2, 3);
    mark(x, 0, 2, 0);
    mark(x, 4, 0, 1);
    tie(x, 0, 1, 0, 2);
    move(x, 9, 3, 1);
    x.knows(0, 1, true);
    x.knows(2, 3, true);
    x.image(0);
    cover(x, "a");
    cover(x, "then b or u a");
    cover(x, "only not me and not at 0");
    x.worth(3, 8);
    x.worth(16, 2);
    x.told(1);
    x.told(2);
    x.letter(0, 0, 3, 2);
    x.letter(0, 1, 3, 7);
    x.days(5);
    x.image(2);
    x.letter(0, 0, 2, 0);
    x.days(2);
    feed(x, "b or c");
    return x;
  }

  /** What can be seen of a post, a part at a time since a post is good for 512 calls. */
  private static List<Integer> look(NamelessPost x, int part) {
    List<Integer> seen = new ArrayList<>();
    switch (part) {
      case 0: lookAtCounts(x, seen); break;
      case 1: lookAtDays(x, seen); break;
      case 2: lookAtCovers(x, seen); break;
      case 3: lookAtWay(x, seen); break;
      case 4: lookAtImages(x, seen); break;
      default: lookAhead(x, seen);
    }
    return seen;
  }

  private static void lookAtCounts(NamelessPost x, List<Integer> seen) {
    for (int what = 0; what < 10; what++) {
      seen.add(x.count(what));
    }
    for (int one = 0; one < 8; one++) {
      for (int other = one; other < 8; other++) {
        seen.add(x.far(one, other));
      }
      for (int what = 0; what < 6; what++) {
        seen.add(x.letters(one, what));
      }
    }
    seen.add(x.often());
    for (int of = 0; of < 17; of++) {
      seen.add(x.worth(of, 0));
    }
  }

  private static void lookAtDays(NamelessPost x, List<Integer> seen) {
    for (int one = 0; one < 12; one++) {
      for (int day : new int[] {0, 7, 999}) {
        seen.add(x.marks(one, day));
        seen.add(x.lives(one, day));
        seen.add(x.sees(one, day));
        for (int tie = 0; tie < 6; tie++) {
          seen.add(x.ties(one, tie, day));
        }
      }
      seen.add(x.circle(one));
    }
  }

  /** The tape too, which is read by making it a cover. */
  private static void lookAtCovers(NamelessPost x, List<Integer> seen) {
    seen.add(x.cover());
    seen.add(x.count(9));
    for (int cover = 0; cover < 8; cover++) {
      for (int reader = -1; reader < 12; reader++) {
        seen.add(x.fits(cover, 0, 0, 6, reader));
      }
    }
  }

  /** A way can be read by being judged alone. */
  private static void lookAtWay(NamelessPost x, List<Integer> seen) {
    seen.add(x.count(8));
    for (int cover = 0; cover < 8; cover++) {
      for (int place = 0; place < 8; place++) {
        seen.add(x.judged(cover, 0, place, 5));
        seen.add(x.ends(0, cover, place, 5, 2));
      }
    }
    seen.add(x.told(2));
  }

  private static void lookAtImages(NamelessPost x, List<Integer> seen) {
    for (int k = 0; k < 4; k++) {
      seen.add(x.back(k));
      for (int what = 0; what < 10; what++) {
        seen.add(x.count(what));
      }
      for (int of = 0; of < 17; of++) {
        seen.add(x.worth(of, 1));
      }
    }
  }

  private static void lookAhead(NamelessPost x, List<Integer> seen) {
    for (int i = 0; i < 12; i++) {
      seen.add(x.days(1));
      for (int letter = 0; letter < 8; letter++) {
        seen.add(x.letters(letter, 0));
        seen.add(x.letters(letter, 1));
        seen.add(x.letters(letter, 5));
      }
    }
  }

  // ---- trying ----

  private static int call(NamelessPost x, String name, int... a) {
    return Calls.of(x, name, a);
  }

  private static String told(String name, int... a) {
    StringBuilder text = new StringBuilder(name).append('(');
    for (int i = 0; i < a.length; i++) {
      text.append(i == 0 ? "" : ", ").append(a[i]);
    }
    return text.append(')').toString();
  }

  /** A post made ready answers a call as is due, and is then as if it had not been called. */
  private static void changesNothing(Consumer<NamelessPost> ready, int want, String name, int... a) {
    of(told(name, a));
    for (int part = 0; part < LOOKS; part++) {
      NamelessPost called = post();
      NamelessPost left = post();
      ready.accept(called);
      ready.accept(left);
      due(want, call(called, name, a));
      must(look(called, part).equals(look(left, part)), "nothing happens, seen by look " + part);
    }
  }

  private static void refused(int answer, String name, int... a) {
    changesNothing(x -> { }, answer, name, a);
  }

  private static void taken(int refusal, String name, int... a) {
    of(told(name, a));
    must(call(post(), name, a) != refusal, "it is taken");
  }

  /** Each number at its least and its greatest is taken, and one beyond them is refused. */
  private static void row(int refusal, String name, Range... ranges) {
    int[] base = new int[ranges.length];
    for (int i = 0; i < base.length; i++) {
      base[i] = ranges[i].base;
    }
    taken(refusal, name, base);
    for (int i = 0; i < base.length; i++) {
      Range range = ranges[i];
      int[] a = base.clone();
      for (int fine : new int[] {range.least, range.greatest}) {
        a[i] = fine;
        taken(refusal, name, a);
      }
      for (int beyond : new int[] {range.least - 1, range.greatest + 1, MIN, MAX}) {
        boolean isBeyond = beyond < range.least || beyond > range.greatest;
        if (isBeyond && range.least < range.greatest) {
          a[i] = beyond;
          refused(refusal, name, a);
        }
      }
    }
  }

  // ---- the calls ----

  private static void told() {
    row(-1, "road", new Range(0, 3, 7), OTHER_PLACE, new Range(1, 4, 9));
    row(-1, "person", PLACE);
    row(-1, "change", DAY, new Range(0, 1, 2), PERSON, TIE, OTHER, only(1));
    row(-1, "change", DAY, only(0), PERSON, new Range(0, 4, 9), ANY, only(0));
    row(-1, "change", DAY, only(1), PERSON, TIE, OTHER, only(0));
    row(-1, "change", DAY, only(2), PERSON, PLACE, ANY, only(0));
    row(0, "knows", PERSON, OTHER, only(1));
    row(-1, "worth", new Range(0, 5, 16), new Range(0, 5, 99));
    row(-1, "end", new Range(0, 2, TAPE));
    row(-2, "told", new Range(-1, 2, 7));
    row(-1, "count", what(9));
    row(-1, "image", what(3));
  }

  private static void days() {
    row(-1, "marks", PERSON, DAY);
    row(-1, "ties", PERSON, TIE, DAY);
    row(-1, "lives", PERSON, DAY);
    row(-1, "sees", PERSON, DAY);
    row(-1, "far", PLACE, PLACE);
    row(-2, "fits", COVER, PERSON, DAY, DAY, READER);
    row(-1, "stale", COVER, PERSON, PERSON, DAY);
    row(-1, "alone", COVER, PERSON, PERSON, DAY);
    row(-1, "tellers", COVER, PERSON, DAY);
    row(-1, "lied", COVER, PERSON, DAY);
    row(-1, "mends", COVER, PERSON, PERSON, DAY);
    row(-1, "days", new Range(1, 2, 60));
  }

  private static void letters() {
    row(-2, "asked", COVER, PERSON, DAY, DAY, PLACE, what(2));
    row(-1, "letter", PERSON, COVER, OTHER, PLACE);
    row(-2, "letters", new Range(0, 0, LETTERS - 1), what(5));
    row(-1, "sure", PERSON, COVER, OTHER, PLACE, DAY, what(1));
    row(-1, "rings", COVER, PERSON, DAY, what(1));
    row(-1, "judged", COVER, PERSON, PLACE, DAY);
    row(-2, "ends", PERSON, COVER, PLACE, DAY, what(4));
    row(-1, "needs", PERSON, COVER, OTHER, PLACE, DAY, what(2));
    row(-1, "copies", PERSON, COVER, OTHER, PLACE, PLACE, DAY, what(1));
  }

  /** From one day to another, 31 at most. */
  private static void spans() {
    Range[][] spans = {
      {only(0), new Range(0, 3, 30)},
      {new Range(0, 2, 30), only(30)},
      {new Range(1, 2, 31), only(31)},
      {only(500), new Range(500, 502, 530)},
      {new Range(969, 980, 999), only(999)},
      {only(990), new Range(990, 991, 999)},
    };
    for (Range[] span : spans) {
      row(-1, "cheapest", PERSON, OTHER, span[0], span[1], what(4));
      row(-1, "apart", span[0], span[1], what(1));
    }
  }

  private static void others() {
    row(-1, "chain", PERSON, OTHER);
    row(-1, "circle", PERSON);
    row(-1, "strangers", DAY);
  }

  /** Where the document wants another one, or another place, one and the same is refused. */
  private static void notTwo() {
    for (int one = 0; one < PEOPLE; one++) {
      refused(-1, "change", 3, 1, one, 0, one, 1);
      refused(0, "knows", one, one, 1);
      refused(0, "knows", one, one, 0);
      refused(-1, "letter", one, 0, one, 0);
      refused(-1, "sure", one, 0, one, 0, 3, 0);
      refused(-1, "cheapest", one, one, 3, 3, 0);
      refused(-1, "needs", one, 0, one, 0, 3, 0);
      refused(-1, "copies", one, 0, one, 0, 1, 3, 0);
      taken(-1, "stale", 0, one, one, 3);
      taken(-1, "alone", 0, one, one, 3);
      taken(-1, "mends", 0, one, one, 3);
      taken(-1, "chain", one, one);
    }
    for (int place = 0; place < 8; place++) {
      refused(-1, "road", place, place, 3);
      taken(-1, "copies", 0, 0, 1, place, place, 3, 0);
    }
    // It is so already.
    refused(0, "knows", 0, 1, 1);
    refused(0, "knows", 0, 2, 0);
    taken(0, "knows", 0, 1, 0);
    taken(0, "knows", 0, 2, 1);
    // The two have a road.
    refused(-1, "road", 0, 1, 2);
    refused(-1, "road", 0, 1, 3);
    refused(-1, "road", 1, 0, 2);
    refused(-1, "road", 2, 1, 9);
    taken(-1, "road", 0, 2, 9);
  }

  /** The last that there is room for is taken; then the same call is refused. */
  private static void last(int refusal, int taken, Consumer<NamelessPost> almostFull, String name, int... a) {
    of(told(name, a));
    NamelessPost x = post();
    almostFull.accept(x);
    due(taken, call(x, name, a));
    changesNothing(almostFull.andThen(y -> call(y, name, a)), refusal, name, a);
  }

  private static void times(int from, int to, Runnable told) {
    for (int i = from; i < to; i++) {
      told.run();
    }
  }

  private static void full() {
    last(-1, 11, x -> times(PEOPLE, 11, () -> x.person(3)), "person", 0);
    last(-1, 60, x -> times(4, 59, () -> mark(x, 6, 2, 2)), "change", 7, 0, 1, 4, 0, 1);
    last(-1, 60, x -> times(4, 59, () -> mark(x, 6, 2, 2)), "change", 0, 1, 1, 4, 0, 1);
    last(-1, 60, x -> times(4, 59, () -> mark(x, 6, 2, 2)), "change", 0, 2, 1, 4, 0, 1);
    last(-1, 7, x -> times(LETTERS, 7, () -> x.letter(0, 1, 2, 0)), "letter", 1, 0, 2, 1);
    last(-2, 20, x -> times(2, 19, () -> x.told(1)), "told", 2);
    last(-1, 400, RefusalsTest::almostFullTape, "feed", 1, 2, 3, 4, 5);
    roadsFull();
    tapeFull();
    coversFull();
    lastDay();
  }

  /** Exactly room for twenty bytes more. */
  private static void almostFullTape(NamelessPost x) {
    x.end(0);
    times(0, 18, () -> x.feed(0x20202020, 0x20202020, 0x20202020, 0x20202020, 0x20202020));
    feed(x, "b or [ c and not a ]");
  }

  private static void roadsFull() {
    Consumer<NamelessPost> fifteen = x -> {
      for (int other = 2; other < 8; other++) {
        x.road(0, other, 4);
        x.road(1, other, 4);
      }
      x.road(2, 3, 4);
      x.road(2, 4, 4);
    };
    of("ROADS 0 to 15");
    NamelessPost x = post();
    fifteen.accept(x);
    due(15, x.count(1));
    due(15, x.road(7, 6, 1));
    due(16, x.count(1));
    due(1, x.far(6, 7));
    changesNothing(fifteen.andThen(y -> y.road(7, 6, 1)), -1, "road", 5, 6, 1);
    changesNothing(fifteen.andThen(y -> y.road(7, 6, 1)), -1, "road", 6, 7, 1);
  }

  private static void tapeFull() {
    Consumer<NamelessPost> by381 = x -> {
      almostFullTape(x);
      x.feed(0x20202020, 0x20202020, 0x20202020, 0x20202020, 0x20202020);
      x.end(381);
    };
    changesNothing(by381, -1, "feed", 0, 0, 0, 0, 0);
    changesNothing(by381, -1, "end", 382);
    of("feed at 380");
    NamelessPost x = post();
    by381.accept(x);
    due(380, x.end(380));
    due(400, x.feed(0x20202020, 0x20202020, 0x20202020, 0x20202020, 0x20202020));
    due(3, x.cover());
  }

  private static void coversFull() {
    Consumer<NamelessPost> eight = x -> {
      x.end(0);
      for (int i = COVERS; i < 8; i++) {
        cover(x, "c");
      }
      feed(x, "b");
    };
    of("COVERS 0 to 7");
    NamelessPost x = post();
    x.end(0);
    for (int i = COVERS; i < 8; i++) {
      due(i, cover(x, "c"));
    }
    changesNothing(eight, -1, "cover");
    // Nor is a fault told then.
    changesNothing(eight.andThen(y -> feed(y, " k")), -1, "cover");
    changesNothing(eight.andThen(y -> y.end(0)), -1, "cover");
  }

  /** NOW may become 999 and no more. */
  private static void lastDay() {
    for (int left = 1; left <= 60; left += left == 1 ? 58 : 1) {
      int days = left;
      int before = 999 - days - NOW;
      Consumer<NamelessPost> near = x -> {
        times(0, before / 60, () -> x.days(60));
        x.days(before % 60);
      };
      of("days(" + days + ") to DAY 999");
      NamelessPost x = post();
      near.accept(x);
      due(999 - days, x.count(7));
      must(x.days(days) >= 0, "it is taken");
      due(999, x.count(7));
      due(-1, x.days(1));
      if (days < 60) {
        changesNothing(near, -1, "days", days + 1);
      }
      changesNothing(near, -1, "days", 61);
      changesNothing(near, -1, "days", MAX);
    }
  }

  /** Images 0 and 2 were made alone. */
  private static void neverMade() {
    of("back");
    due(0, post().back(0));
    due(5, post().back(2));
    for (int k : new int[] {-1, 1, 3, 4, MIN, MAX}) {
      refused(-1, "back", k);
    }
    // A refused image is none.
    changesNothing(x -> x.image(4), -1, "back", 4);
  }

  /** Questions leave all as it was, whatever they try out. */
  private static void asking() {
    for (int cover = 0; cover < COVERS; cover++) {
      for (int what = 0; what < 2; what++) {
        unmoved("asked", cover, 0, 3, 3, 0, what);
        unmoved("sure", 0, cover, 2, 0, 3, what);
        unmoved("rings", cover, 0, 3, what);
        unmoved("ends", 0, cover, 0, 3, what);
        unmoved("needs", 0, cover, 3, 0, 3, what);
        unmoved("copies", 0, cover, 2, 0, 1, 3, what);
      }
      unmoved("fits", cover, 0, 3, 3, 0);
      unmoved("stale", cover, 0, 2, 3);
      unmoved("alone", cover, 0, 2, 3);
      unmoved("judged", cover, 0, 0, 3);
      unmoved("mends", cover, 0, 2, 3);
      unmoved("tellers", cover, 0, 3);
      unmoved("lied", cover, 0, 3);
    }
    unmoved("cheapest", 0, 2, 3, 9, 1);
    unmoved("apart", 3, 9, 0);
    unmoved("marks", 0, 3);
    unmoved("ties", 1, 0, 3);
    unmoved("lives", 3, 9);
    unmoved("sees", 0, 3);
    unmoved("far", 0, 2);
    unmoved("letters", 0, 0);
    unmoved("chain", 0, 1);
    unmoved("circle", 0);
    unmoved("strangers", 3);
    unmoved("often");
    unmoved("count", 0);
    unmoved("end", TAPE);
  }

  private static void unmoved(String name, int... a) {
    changesNothing(x -> { }, call(post(), name, a), name, a);
  }
}
