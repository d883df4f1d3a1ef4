import java.util.ArrayList;
import java.util.HashMap;
import java.util.List;
import java.util.Map;
import java.util.Random;
import java.util.Set;
import java.util.TreeSet;

/**
 * Long random runs with fixed seeds: each call is answered by NamelessPost and by PlainPost, a
 * second writing of the document that looks at everything afresh and tries everything out.
 */
public final class PlainPostTest {
  private static int wrong = 0;

  public static void main(String[] args) {
    int runs = Integer.getInteger("runs", 160);
    int first = Integer.getInteger("first", 0);
    Map<String, Map<Integer, Integer>> seen = new HashMap<>();
    for (int seed = first; seed < first + runs && wrong < 20; seed++) {
      new Run(seed, seen).go();
    }
    if (Boolean.getBoolean("spread")) {
      for (String call : new TreeSet<>(seen.keySet())) {
        System.out.println(call + " " + seen.get(call));
      }
    }
    System.out.println(wrong == 0 ? runs + " runs are alike" : wrong + " answers differ");
    if (wrong != 0) {
      System.exit(1);
    }
  }

  /** One run: what is told first, then questions and more told in between. */
  private static final class Run {
    final Random random;
    final int seed;
    final NamelessPost post = new NamelessPost();
    final PlainPost plain = new PlainPost();
    final List<String> calls = new ArrayList<>();
    final Map<String, Map<Integer, Integer>> seen;
    final int span;
    final int base;
    final int crowd;
    final int placesUsed;
    /** Worlds in which covers are short and often fit, and letters come far. */
    final boolean lively;

    Run(int seed, Map<String, Map<Integer, Integer>> seen) {
      this.seed = seed;
      this.seen = seen;
      random = new Random(seed);
      span = new int[] {3, 12, 40, 100}[random.nextInt(4)];
      base = random.nextInt(4) == 0 ? 999 - random.nextInt(120) : random.nextInt(3) * 7;
      lively = random.nextInt(4) != 0;
      crowd = lively ? 3 + random.nextInt(5) : 2 + random.nextInt(11);
      placesUsed = lively ? 3 + random.nextInt(4) : 2 + random.nextInt(7);
    }

    void go() {
      if (random.nextInt(6) == 0) {
        tellMarks();
      }
      if (random.nextInt(8) == 0) {
        tellRound();
      } else {
        tellWorld();
      }
      while (calls.size() < 512 && wrong < 20) {
        int pick = random.nextInt(100);
        if (pick < 10) {
          tellMore();
        } else {
          askOne();
        }
      }
    }

    /** Few have marks, roads are a line: covers are told from afar, and letters go to and fro. */
    void tellLine() {
      for (int i = 0; i < crowd; i++) {
        call("person", place());
      }
      for (int i = 0; i + 1 < placesUsed; i++) {
        call("road", i, i + 1, 1 + random.nextInt(random.nextBoolean() ? 1 : 4));
      }
      for (int i = 0; i < 3; i++) {
        call("change", 0, 0, one(), 0, 0, 1);
        call("change", 0, 1, one(), 0, one(), 1);
        call("change", 0, 0, one(), 1, 0, 1);
      }
      for (int i = random.nextInt(crowd * 2); i >= 0; i--) {
        call("knows", one(), one(), 1);
      }
      for (int i = random.nextInt(4); i > 0; i--) {
        tellChange(-1);
      }
      for (int i = 0; i < 4; i++) {
        feedAll(new String[] {"a", "then a", "a and not u b", "then b or u a", "only a", "not a and not b"}[random.nextInt(6)]);
        call("cover");
      }
    }

    /** At each place one alone knows whose tie tells of one at the next place: letters go round. */
    void tellRound() {
      int round = 2 + random.nextInt(2);
      int ahead = plain.now.start.size();
      for (int i = 0; i < 3 * round; i++) {
        call("person", i < round ? i : i < 2 * round ? (i + 1) % round : 7);
      }
      for (int i = 0; i < round; i++) {
        call("road", i, (i + 1) % round, 1 + random.nextInt(3));
        call("change", 0, 0, ahead + 2 * round + i, 0, 0, 1);
        call("change", 0, 1, ahead + round + i, 0, ahead + 2 * round + i, 1);
        call("knows", ahead + i, ahead + round + i, 1);
        call("knows", ahead + i, ahead + 2 * round + i, 1);
      }
      for (int i = random.nextInt(4); i > 0; i--) {
        call("knows", one(), one(), 1);
        tellChange(random.nextBoolean() ? -1 : 90 + random.nextInt(20));
      }
      for (int i = 0; i < 4; i++) {
        feedAll(new String[] {"u a", "then u a", "only u a", "u a and not me", "u [a or b]"}[random.nextInt(5)]);
        call("cover");
      }
      for (int i = 0; i < 8; i++) {
        int[] rings = {coverNumber(), one(), day(), i % 2};
        call("rings", rings);
      }
    }

    /** Many marks and ties, so that there are many sets of words to choose among. */
    void tellMarks() {
      for (int i = 0; i < crowd; i++) {
        call("person", place());
      }
      int kinds = 4 + random.nextInt(7);
      int sender = one();
      for (int i = 0; i < 56; i++) {
        int kind = random.nextInt(5) == 0 ? 1 : 0;
        int what = random.nextInt(kind == 0 ? kinds : 6);
        call("change", Math.min(999, base + random.nextInt(2)), kind, one(), what, sender, 1);
      }
      for (int i = 0; i < 20; i++) {
        if (random.nextInt(4) == 0) {
          call("worth", random.nextInt(17), random.nextInt(4));
        }
        int day = Math.min(999, base + random.nextInt(3));
        int person = one();
        for (int what = 0; what < 5; what++) {
          call("cheapest", sender, person, day, Math.min(999, day + i % 2), what);
        }
        call("apart", day, day, i % 2);
      }
    }

    void tellWorld() {
      if (lively && random.nextBoolean()) {
        tellLine();
        return;
      }
      for (int i = 0; i < crowd; i++) {
        call("person", place());
      }
      int roads = random.nextInt(13) + (lively ? placesUsed : 2);
      for (int i = 0; i < roads; i++) {
        int longest = random.nextBoolean() ? 2 : 9;
        call("road", place(), place(), 1 + random.nextInt(longest));
      }
      int known = random.nextInt(crowd * 2 + 1) + (lively ? crowd : 0);
      for (int i = 0; i < known; i++) {
        call("knows", one(), one(), 1);
      }
      int changes = random.nextInt(60);
      for (int i = 0; i < changes; i++) {
        tellChange(random.nextInt(lively ? 2 : 3) != 0 ? -1 : 0);
      }
      int covers = 2 + random.nextInt(5);
      for (int i = 0; i < covers; i++) {
        tellCover();
      }
    }

    void tellChange(int day) {
      int kind = random.nextInt(100) < 2 ? random.nextInt(9) - 3 : random.nextInt(3);
      int most = kind == 0 ? 10 : kind == 1 ? 6 : placesUsed;
      int what = random.nextInt(60) == 0 ? odd() : random.nextInt(random.nextBoolean() ? Math.min(most, 3) : most);
      call("change", day >= 0 ? day : day(), kind, one(), what, one(), random.nextInt(4) == 0 ? 0 : 1);
    }

    void tellCover() {
      feedAll(new Texts(random, lively).cover());
      call("cover");
    }

    void feedAll(String text) {
      StringBuilder bytes = new StringBuilder(text);
      int fed = plain.tape.size();
      for (int i = 0; i < bytes.length(); i += 20) {
        int[] five = new int[5];
        for (int j = 0; j < 20; j++) {
          int sign = i + j < bytes.length() ? bytes.charAt(i + j) & 255 : random.nextInt(256);
          five[j / 4] |= sign << 24 - 8 * (j % 4);
        }
        call("feed", five[0], five[1], five[2], five[3], five[4]);
      }
      call("end", fed + bytes.length());
    }

    void tellMore() {
      switch (random.nextInt(12)) {
        case 0: call("person", place()); break;
        case 1: call("road", place(), place(), random.nextInt(11)); break;
        case 2: call("knows", one(), one(), random.nextInt(2)); break;
        case 3: call("worth", random.nextInt(18) - random.nextInt(2), random.nextInt(3) == 0 ? random.nextInt(102) - 1 : random.nextInt(4)); break;
        case 4: if (random.nextInt(3) == 0) tellCover(); break;
        case 5: call("days", random.nextInt(8) == 0 ? random.nextInt(64) - 1 : 1 + random.nextInt(6)); break;
        case 6: call("letter", one(), coverNumber(), one(), place()); break;
        case 7: call("told", random.nextInt(12) == 0 ? odd() : random.nextInt(9) == 0 ? -1 : place()); break;
        case 8: call("image", random.nextInt(6) - 1); break;
        case 9: call("back", random.nextInt(6) - 1); break;
        case 10: call("end", random.nextInt(3) - 1); break;
        default: tellChange(-1);
      }
    }

    void askOne() {
      int to = day();
      switch (random.nextInt(36)) {
        case 0: call("marks", one(), day()); break;
        case 1: call("ties", one(), random.nextInt(8) - 1, day()); break;
        case 2: call("lives", one(), day()); break;
        case 3: call("sees", one(), day()); break;
        case 4: call("far", place(), place()); break;
        case 5: case 6: call("fits", coverNumber(), one(), day(), day(), random.nextInt(3) == 0 ? -1 : one()); break;
        case 7: case 8: call("asked", coverNumber(), one(), day(), day(), place(), random.nextInt(5) - 1); break;
        case 9: call("stale", coverNumber(), one(), one(), day()); break;
        case 10: if (random.nextInt(3) == 0) call("letter", one(), coverNumber(), one(), place()); break;
        case 11: call("days", 1 + random.nextInt(3)); break;
        case 12: case 13: call("letters", random.nextInt(9) - random.nextInt(2), random.nextInt(8) - 1); break;
        case 14: case 15: {
          int[] a = {one(), coverNumber(), one(), place(), day(), 0};
          if (random.nextBoolean()) {
            a[2] = oneMeant(a[1], a[0], a[4]);
          }
          for (a[5] = -1; a[5] < 3; a[5]++) call("sure", a);
          break;
        }
        case 16: {
          int[] a = {coverNumber(), one(), day(), 0};
          for (a[3] = -1; a[3] < 3; a[3]++) call("rings", a);
          break;
        }
        case 17: tellGoodWay(); break;
        case 18: call("judged", coverNumber(), one(), place(), day()); break;
        case 19: case 20: {
          int from = to - random.nextInt(random.nextInt(5) == 0 ? 40 : 6) + (random.nextInt(20) == 0 ? 5 : 0);
          int sender = one();
          int person = one();
          for (int what = -1; what < 6; what++) call("cheapest", sender, person, from, to, what);
          break;
        }
        case 21: {
          int from = to - random.nextInt(random.nextInt(5) == 0 ? 40 : 3);
          for (int what = -1; what < 3; what++) call("apart", from, to, what);
          break;
        }
        case 22: case 23: {
          int[] a = {one(), coverNumber(), place(), day(), 0};
          for (a[4] = -1; a[4] < 6; a[4]++) call("ends", a);
          break;
        }
        case 24: {
          if (random.nextInt(crowd > 6 ? 12 : 1) != 0) break;
          int[] a = {one(), coverNumber(), one(), place(), day(), 0};
          if (random.nextInt(3) != 0) {
            a[2] = oneMeant(a[1], a[0], a[4]);
          }
          for (a[5] = -1; a[5] < 4; a[5]++) call("needs", a);
          break;
        }
        case 25: call("mends", coverNumber(), one(), one(), day()); break;
        case 26: call("tellers", coverNumber(), one(), day()); break;
        case 27: call("lied", coverNumber(), one(), day()); break;
        case 28: call("alone", coverNumber(), one(), one(), day()); break;
        case 29: call("chain", one(), one()); break;
        case 30: call("circle", one()); break;
        case 31: call("strangers", day()); break;
        case 32: case 33: {
          int[] a = {one(), coverNumber(), one(), place(), place(), day(), 0};
          if (random.nextBoolean()) {
            a[2] = oneMeant(a[1], a[0], a[5]);
          }
          for (a[6] = -1; a[6] < 3; a[6]++) call("copies", a);
          break;
        }
        case 34: call("often"); break;
        default: call("count", random.nextInt(13) - 2);
      }
    }

    /** A way that a letter goes, at times with a wrong step, judged. */
    void tellGoodWay() {
      int cover = coverNumber();
      int sender = one();
      int place = place();
      int day = day();
      call("told", -1);
      if (plain.cover(cover) != null && plain.isPerson(sender) && PlainPost.isPlace(place) && PlainPost.isDay(day)) {
        PlainPost.Trip trip = plain.new Trip(plain.cover(cover), sender, place, day);
        for (int i = 0; i < 20 && trip.step(999); i++) {
          call("told", random.nextInt(12) == 0 ? place() : trip.place);
        }
      }
      call("judged", cover, sender, place, day);
    }

    /** One whom a cover fits, if there is one. */
    int oneMeant(int cover, int sender, int day) {
      if (plain.cover(cover) == null || !plain.isPerson(sender) || !PlainPost.isDay(day)) {
        return one();
      }
      List<Integer> meant = new ArrayList<>(plain.fits(plain.cover(cover), sender, day, day, -1, true));
      return meant.isEmpty() ? one() : meant.get(random.nextInt(meant.size()));
    }

    int odd() {
      int[] odds = {-1, -2, -3, 8, 9, 12, 20, 60, 61, 1000, 1001, Integer.MAX_VALUE, Integer.MIN_VALUE};
      return odds[random.nextInt(odds.length)];
    }

    int one() {
      return random.nextInt(100) == 0 ? odd() : random.nextInt(Math.max(1, plain.now.start.size()));
    }

    int place() {
      return random.nextInt(100) == 0 ? odd() : random.nextInt(placesUsed);
    }

    int coverNumber() {
      return random.nextInt(100) == 0 ? odd() : random.nextInt(Math.max(1, plain.covers.size()));
    }

    int day() {
      if (random.nextInt(100) == 0) {
        return odd();
      }
      return random.nextInt(20) == 0 ? random.nextInt(1000) : Math.min(999, base + random.nextInt(span));
    }

    void call(String name, int... a) {
      if (calls.size() >= 512) {
        return;
      }
      StringBuilder text = new StringBuilder(name).append('(');
      for (int i = 0; i < a.length; i++) {
        text.append(i == 0 ? "" : ", ").append(a[i]);
      }
      text.append(')');
      calls.add(text.toString());
      int got = Calls.of(post, name, a);
      int due = plain.answer(name, a);
      seen.computeIfAbsent(name, k -> new HashMap<>()).merge(due < -2 ? -9 : Math.min(due, 3), 1, Integer::sum);
      if (got != due) {
        wrong++;
        System.out.println("seed " + seed + ", call " + calls.size() + ": " + text + " answered " + got + ", due is " + due);
      }
    }
  }

  /** Texts of covers, most of them whole, some broken. */
  private static final class Texts {
    final Random random;
    final boolean rich;
    final boolean lively;

    Texts(Random random, boolean lively) {
      this.random = random;
      this.lively = lively;
      rich = random.nextInt(4) == 0;
    }

    String cover() {
      StringBuilder text = new StringBuilder();
      if (lively && random.nextInt(4) != 0) {
        String[] shorts = {"a", "b", "c", "then a", "then b", "then a and not me", "then not [a or me]", "not me and not b",
            "u me", "then u a or v b", "only a and b", "then only c", "then at 1 or c", "u u a", "not at 0 and not me", "then not a and not at 2"};
        return shorts[random.nextInt(shorts.length)];
      }
      if (random.nextInt(4) == 0) text.append("only ");
      if (random.nextInt(2) == 0) text.append("then ");
      if (random.nextInt(10) == 0) text.append("only ");
      text.append(test(random.nextInt(12) == 0 ? 13 : 3));
      String whole = blanks(text.toString());
      if (random.nextInt(4) == 0) {
        whole = broken(whole);
      }
      return whole.length() > 360 ? whole.substring(0, 360) : whole;
    }

    String test(int depth) {
      StringBuilder text = new StringBuilder(part(depth));
      int more = random.nextInt(rich ? 5 : 2);
      for (int i = 0; i < more; i++) text.append(" or ").append(part(depth));
      return text.toString();
    }

    String part(int depth) {
      StringBuilder text = new StringBuilder(fact(depth));
      int more = random.nextInt(rich ? 3 : 2);
      for (int i = 0; i < more; i++) text.append(" and ").append(fact(depth));
      return text.toString();
    }

    String fact(int depth) {
      int pick = random.nextInt(depth > 10 ? 5 : 12);
      if (depth > 0 && pick < 2) return "not " + fact(depth - 1);
      if (depth > 0 && pick < 3) return depth > 5 ? "[ " + fact(depth - 1) + " ]" : "[ " + test(depth - 2) + " ]";
      if (depth > 0 && pick < 5) return (char) ('u' + random.nextInt(random.nextBoolean() ? 2 : 6)) + " " + fact(depth - 1);
      if (pick < 7) return "at " + random.nextInt(random.nextInt(40) == 0 ? 20 : 8);
      if (pick < 8) return "me";
      return "" + (char) ('a' + random.nextInt(random.nextBoolean() ? 3 : 10));
    }

    /** Takes away or adds blanks where they make no difference, or hardly any. */
    String blanks(String text) {
      String changed = text;
      if (random.nextInt(3) == 0) changed = changed.replace("[ ", "[").replace(" ]", "]");
      if (random.nextInt(5) == 0) changed = changed.replace("at ", "at");
      if (random.nextInt(5) == 0) changed = changed.replace(" ", "  ");
      if (random.nextInt(8) == 0) changed = " " + changed + "  ";
      return changed;
    }

    String broken(String text) {
      StringBuilder changed = new StringBuilder(text);
      int times = 1 + random.nextInt(2);
      String signs = " []019abcjkmnotuz\tA{`" + (char) 0 + (char) 200;
      for (int i = 0; i < times && changed.length() > 0; i++) {
        int at = random.nextInt(changed.length());
        switch (random.nextInt(4)) {
          case 0: changed.deleteCharAt(at); break;
          case 1: changed.setLength(at); break;
          case 2: changed.setCharAt(at, signs.charAt(random.nextInt(signs.length()))); break;
          default: changed.insert(at, signs.charAt(random.nextInt(signs.length())));
        }
      }
      return changed.toString();
    }
  }

  /** The document once more, plainly. */
  private static final class PlainPost {
    static final class Change {
      int day, kind, person, what, other;
      boolean is;
    }

    static final class Sent {
      int sender, cover, person, sent, place, day, status, opener = -1;
      TreeSet<Integer> was = new TreeSet<>();

      Sent copy() {
        Sent c = new Sent();
        c.sender = sender; c.cover = cover; c.person = person; c.sent = sent;
        c.place = place; c.day = day; c.status = status; c.opener = opener;
        c.was.addAll(was);
        return c;
      }
    }

    static final class All {
      List<Integer> start = new ArrayList<>();
      List<int[]> roads = new ArrayList<>();
      List<Change> changes = new ArrayList<>();
      Set<List<Integer>> knows = new java.util.HashSet<>();
      int[] worth = new int[17];
      List<Sent> letters = new ArrayList<>();
      int now;
      List<Integer> way = new ArrayList<>();

      All copy() {
        All c = new All();
        c.start.addAll(start); c.roads.addAll(roads); c.changes.addAll(changes); c.knows.addAll(knows);
        c.worth = worth.clone(); c.now = now; c.way.addAll(way);
        for (Sent s : letters) c.letters.add(s.copy());
        return c;
      }
    }

    /** A fact of a cover: a word and what stands behind it. */
    static final class Node {
      final String word;
      final int number;
      final List<Node> parts = new ArrayList<>();

      Node(String word, int number) {
        this.word = word;
        this.number = number;
      }
    }

    static final class Text {
      boolean only, then;
      Node test;
    }

    static final class Fault extends RuntimeException {
      private static final long serialVersionUID = 1L;
      final int number;

      Fault(int place, int kind) {
        number = 1 + 8 * place + kind;
      }
    }

    All now = new All();
    final All[] images = new All[4];
    final List<Text> covers = new ArrayList<>();
    List<Integer> tape = new ArrayList<>();

    PlainPost() {
      java.util.Arrays.fill(now.worth, 1);
    }

    // -- what is so --

    int people() { return now.start.size(); }
    boolean isPerson(int p) { return p >= 0 && p < people(); }
    boolean two(int a, int b) { return isPerson(a) && isPerson(b) && a != b; }
    static boolean isPlace(int p) { return p >= 0 && p < 8; }
    static boolean isDay(int d) { return d >= 0 && d <= 999; }
    Text cover(int c) { return c >= 0 && c < covers.size() ? covers.get(c) : null; }

    Change last(int kind, int person, int what, int other, int day) {
      Change found = null;
      for (Change c : now.changes) {
        boolean same = c.kind == kind && c.person == person && (kind == 2 || c.what == what) && (kind != 1 || c.other == other);
        if (same && c.day <= day && (found == null || c.day >= found.day)) found = c;
      }
      return found;
    }

    boolean mark(int p, int m, int day) { Change c = last(0, p, m, 0, day); return c != null && c.is; }
    boolean tie(int p, int t, int q, int day) { Change c = last(1, p, t, q, day); return c != null && c.is; }
    int lives(int p, int day) { Change c = last(2, p, 0, 0, day); return c == null ? now.start.get(p) : c.what; }
    boolean knows(int p, int q) { return now.knows.contains(List.of(p, q)); }
    boolean sees(int p, int q, int day) { return p == -1 || p == q || knows(p, q) || lives(p, day) == lives(q, day); }

    int road(int a, int b) {
      for (int[] r : now.roads) if (r[0] == a && r[1] == b || r[0] == b && r[1] == a) return r[2];
      return 0;
    }

    /** The fewest days, by letting shorter ways be found until none is. */
    int far(int a, int b) {
      int[] best = new int[8];
      java.util.Arrays.fill(best, 99999);
      best[a] = 0;
      for (boolean more = true; more; ) {
        more = false;
        for (int[] r : now.roads) {
          if (best[r[0]] + r[2] < best[r[1]]) { best[r[1]] = best[r[0]] + r[2]; more = true; }
          if (best[r[1]] + r[2] < best[r[0]]) { best[r[0]] = best[r[1]] + r[2]; more = true; }
        }
      }
      return best[b] >= 99999 ? -2 : best[b];
    }

    int next(int a, int b) {
      int whole = far(a, b);
      if (whole <= 0) return -1;
      for (int n = 0; n < 8; n++) {
        int r = road(a, n);
        if (r > 0 && far(n, b) >= 0 && r + far(n, b) == whole) return n;
      }
      throw new IllegalStateException();
    }

    // -- covers: words cut first, then read with a row of what is open --

    static List<Object[]> words(List<Integer> t) {
      List<Object[]> words = new ArrayList<>();
      for (int i = 0; i < t.size(); ) {
        int b = t.get(i);
        int j = i + 1;
        if (b == 32) { i++; continue; }
        if (b >= 'a' && b <= 'z') while (j < t.size() && t.get(j) >= 'a' && t.get(j) <= 'z') j++;
        if (b >= '0' && b <= '9') while (j < t.size() && t.get(j) >= '0' && t.get(j) <= '9') j++;
        StringBuilder w = new StringBuilder();
        for (int k = i; k < j; k++) w.append((char) (int) t.get(k));
        words.add(new Object[] {w.toString(), i});
        i = j;
      }
      words.add(new Object[] {"", t.size()});
      return words;
    }

    List<Object[]> row;
    int at;
    int facts;

    String word() { return (String) row.get(at)[0]; }
    int where() { return (Integer) row.get(at)[1]; }

    Text read(List<Integer> t) {
      row = words(t);
      at = 0;
      facts = 0;
      Text text = new Text();
      while (true) {
        if (word().equals("only") && !text.only) text.only = true;
        else if (word().equals("then") && !text.then) text.then = true;
        else break;
        at++;
      }
      text.test = either("or", 0, 0);
      if (!word().isEmpty()) throw new Fault(where(), 0);
      return text;
    }

    Node either(String joined, int nest, int ties) {
      Node all = new Node(joined, 0);
      while (true) {
        all.parts.add(joined.equals("or") ? either("and", nest, ties) : fact(nest, ties));
        if (!word().equals(joined)) return all;
        at++;
      }
    }

    Node fact(int nest, int ties) {
      String w = word();
      int place = where();
      boolean letter = w.length() == 1;
      Node n;
      if (w.equals("not") || w.equals("[")) {
        if (nest == 10) throw new Fault(place, 2);
        at++;
        n = new Node(w, 0);
        n.parts.add(w.equals("not") ? fact(nest + 1, ties) : either("or", nest + 1, ties));
        if (w.equals("[")) {
          if (!word().equals("]")) throw new Fault(where(), 0);
          at++;
        }
      } else if (letter && w.compareTo("u") >= 0 && w.compareTo("z") <= 0) {
        if (ties == 4) throw new Fault(place, 2);
        at++;
        n = new Node("tie", w.charAt(0) - 'u');
        n.parts.add(fact(nest, ties + 1));
      } else if (letter && w.compareTo("a") >= 0 && w.compareTo("j") <= 0 || w.equals("me") || w.equals("at")) {
        if (++facts > 30) throw new Fault(place, 3);
        at++;
        n = new Node(letter ? "mark" : w, w.charAt(0) - 'a');
        if (w.equals("at")) {
          if (word().isEmpty() || !Character.isDigit(word().charAt(0))) throw new Fault(where(), 0);
          if (word().length() > 1 || word().charAt(0) > '7') throw new Fault(where(), 1);
          n = new Node("at", word().charAt(0) - '0');
          at++;
        }
      } else {
        throw new Fault(place, 0);
      }
      return n;
    }

    boolean holds(Node n, int p, int sender, int facts, int day, int reader) {
      switch (n.word) {
        case "or": for (Node k : n.parts) if (holds(k, p, sender, facts, day, reader)) return true; return false;
        case "and": for (Node k : n.parts) if (!holds(k, p, sender, facts, day, reader)) return false; return true;
        case "not": return !holds(n.parts.get(0), p, sender, facts, day, reader);
        case "[": return holds(n.parts.get(0), p, sender, facts, day, reader);
        case "mark": return mark(p, n.number, facts);
        case "at": return lives(p, facts) == n.number;
        case "me": return p == sender;
        default:
          for (int q = 0; q < people(); q++) {
            if (tie(p, n.number, q, facts) && sees(reader, q, day) && holds(n.parts.get(0), q, sender, facts, day, reader)) return true;
          }
          return false;
      }
    }

    Set<Integer> fits(Text t, int sender, int sent, int day, int reader, boolean lookAtOnly) {
      TreeSet<Integer> all = new TreeSet<>();
      for (int p = 0; p < people(); p++) {
        if (sees(reader, p, day) && holds(t.test, p, sender, t.then ? day : sent, day, reader)) all.add(p);
      }
      if (lookAtOnly && t.only && all.size() > 1) all.clear();
      return all;
    }

    static int bits(Iterable<Integer> set) {
      int b = 0;
      for (int i : set) b |= 1 << i;
      return b;
    }

    // -- letters --

    /** How (0 opened, 1 on, 2 nobody), by whom or where to, who tells. */
    int[] ask(Text t, int sender, int sent, int day, int place) {
      for (int p = 0; p < people(); p++) {
        if (lives(p, day) != place) continue;
        Set<Integer> told = fits(t, sender, sent, day, p, true);
        if (told.isEmpty()) continue;
        if (told.contains(p)) return new int[] {0, p, p};
        int q = told.iterator().next();
        if (lives(q, day) == place) return new int[] {0, q, p};
        if (far(place, lives(q, day)) == -2) continue;
        return new int[] {1, next(place, lives(q, day)), p};
      }
      return new int[] {2, -1, -1};
    }

    final class Trip {
      final Text text;
      final int sender, sent;
      int place, day, goings, status, opener = -1;
      final TreeSet<Integer> was = new TreeSet<>();

      Trip(Text text, int sender, int place, int day) {
        this.text = text; this.sender = sender; this.place = place; this.day = day; sent = day;
        was.add(place);
      }

      /** Whether it went on. */
      boolean step(int latest) {
        int[] a = ask(text, sender, sent, day, place);
        if (a[0] == 0) { status = 1; opener = a[1]; return false; }
        int to = a[0] == 1 ? a[1] : -1;
        if (a[0] == 2) {
          for (int days = 1; days < 10 && to < 0; days++) {
            for (int n = 0; n < 8 && to < 0; n++) if (road(place, n) == days && !was.contains(n)) to = n;
          }
          if (to < 0) { status = 2; return false; }
        }
        if (day + road(place, to) > latest) return false;
        day += road(place, to);
        place = to;
        was.add(to);
        goings++;
        return true;
      }
    }

    Trip ends(Text t, int sender, int place, int day) {
      Trip trip = new Trip(t, sender, place, day);
      while (trip.goings < 100 && trip.step(999)) { }
      return trip;
    }

    void dayGoesBy() {
      for (Sent l : now.letters) {
        if (l.status != 0 || l.day != now.now) continue;
        Trip trip = new Trip(covers.get(l.cover), l.sender, l.place, l.sent);
        trip.day = l.day;
        trip.was.addAll(l.was);
        trip.step(99999);
        l.place = trip.place; l.day = trip.day; l.status = trip.status; l.opener = trip.opener;
        l.was = trip.was;
      }
      now.now++;
    }

    int underWay() { int n = 0; for (Sent l : now.letters) if (l.status == 0) n++; return n; }

    /** Sure (0, 1) and how soon, from a place so many days behind the start. */
    int[] sure(Text t, int sender, int person, int sent, int place, int gone, Map<Integer, int[]> known) {
      if (gone > 60) return new int[] {0, 99999};
      int key = gone * 8 + place;
      if (known.containsKey(key)) return known.get(key);
      int day = Math.min(999, sent + gone);
      int[] answer = {0, 99999};
      for (int p = 0; p < people(); p++) {
        if (lives(p, day) != place) continue;
        Set<Integer> told = fits(t, sender, sent, day, p, true);
        if (told.contains(p)) {
          answer = p == person ? new int[] {1, gone} : new int[] {0, 99999};
          break;
        }
        told.removeIf(q -> far(place, lives(q, day)) == -2);
        if (told.isEmpty()) continue;
        answer = new int[] {1, 99999};
        for (int q : told) {
          int[] one;
          if (lives(q, day) == place) {
            one = q == person ? new int[] {1, gone} : new int[] {0, 99999};
          } else {
            int n = next(place, lives(q, day));
            one = sure(t, sender, person, sent, n, gone + road(place, n), known);
          }
          answer = new int[] {Math.min(answer[0], one[0]), Math.min(answer[1], one[1])};
        }
        break;
      }
      known.put(key, answer);
      return answer;
    }

    int words(int p, int sender, int day) {
      int b = 0;
      for (int m = 0; m < 10; m++) if (mark(p, m, day)) b |= 1 << m;
      for (int t = 0; t < 6; t++) if (tie(p, t, sender, day)) b |= 1 << 10 + t;
      return b;
    }

    int cheapest(int sender, int person, int from, int to, int what) {
      int held = 0;
      int nots = 0;
      for (int w = 0; w < 16; w++) {
        int days = 0;
        for (int d = from; d <= to; d++) days += words(person, sender, d) >> w & 1;
        if (days == 0) nots |= 1 << w;
        if (days == 0 || days == to - from + 1) held |= 1 << w;
      }
      TreeSet<Integer> unlike = new TreeSet<>();
      for (int d = from; d <= to; d++) {
        for (int q = 0; q < people(); q++) {
          if (q == person) continue;
          int diff = (words(q, sender, d) ^ words(person, sender, d)) & held;
          if (diff == 0) return what == 3 ? d : what == 4 ? q : -2;
          unlike.add(diff);
        }
      }
      if (what > 2) return -2;
      int[] diffs = unlike.stream().mapToInt(i -> i).toArray();
      int best = -1;
      int bestWorth = 0;
      search:
      for (int s = 0; s < 65536; s++) {
        if ((s & ~held) != 0) continue;
        for (int diff : diffs) if ((diff & s) == 0) continue search;
        int worth = 0;
        for (int w = 0; w < 16; w++) if ((s >> w & 1) == 1) worth += now.worth[w] + ((nots >> w & 1) == 1 ? now.worth[16] : 0);
        if (best == -1 || worth < bestWorth || worth == bestWorth && Integer.bitCount(s) < Integer.bitCount(best)) {
          best = s;
          bestWorth = worth;
        }
      }
      return what == 0 ? bestWorth : what == 1 ? best : best & nots;
    }

    int apart(int from, int to, int what) {
      int forced = 0;
      List<Integer> diffs = new ArrayList<>();
      for (int d = from; d <= to; d++) {
        for (int p = 0; p < people(); p++) {
          for (int q = 0; q < p; q++) {
            int diff = (words(p, 0, d) ^ words(q, 0, d)) & 1023;
            diffs.add(diff);
            for (int m = 0; m < 10; m++) if (diff == 1 << m) forced |= diff;
          }
        }
      }
      if (what == 1) return forced;
      int best = -2;
      for (int s = 0; s < 1024; s++) {
        boolean all = true;
        for (int diff : diffs) all &= (diff & s) != 0;
        if (all && (best == -2 || Integer.bitCount(s) < Integer.bitCount(best))) best = s;
      }
      return best;
    }

    int needs(int sender, Text t, int person, int place, int day, int what) {
      List<Integer> twos = new ArrayList<>();
      for (int p = 0; p < people(); p++) for (int q = 0; q < people(); q++) if (p != q && !knows(p, q)) twos.add(12 * p + q);
      if (right(t, sender, person, place, day)) return what == 0 ? 0 : -2;
      for (int a : twos) {
        now.knows.add(List.of(a / 12, a % 12));
        boolean right = right(t, sender, person, place, day);
        now.knows.remove(List.of(a / 12, a % 12));
        if (right) return what == 0 ? 1 : what == 1 ? a : -2;
      }
      for (int a : twos) {
        for (int b : twos) {
          if (b <= a) continue;
          now.knows.add(List.of(a / 12, a % 12));
          now.knows.add(List.of(b / 12, b % 12));
          boolean right = right(t, sender, person, place, day);
          now.knows.remove(List.of(a / 12, a % 12));
          now.knows.remove(List.of(b / 12, b % 12));
          if (right) return what == 0 ? 2 : what == 1 ? a : b;
        }
      }
      return -2;
    }

    boolean right(Text t, int sender, int person, int place, int day) {
      Trip trip = ends(t, sender, place, day);
      return trip.status == 1 && trip.opener == person;
    }

    int mends(Text t, int sender, int person, int day) {
      Set<Integer> fit = fits(t, sender, day, day, -1, false);
      if (fit.equals(Set.of(person))) return 32;
      int best = -2;
      int worth = 0;
      for (int w = 0; w < 32; w++) {
        TreeSet<Integer> left = new TreeSet<>();
        for (int p : fit) if ((words(p, sender, day) >> w % 16 & 1) == (w < 16 ? 1 : 0)) left.add(p);
        int its = now.worth[w % 16] + (w < 16 ? 0 : now.worth[16]);
        if (left.equals(Set.of(person)) && (best == -2 || its < worth)) { best = w; worth = its; }
      }
      return best;
    }

    int rings(Text t, int sender, int day, int what) {
      int which = 0;
      int fewest = 0;
      for (int from = 0; from < 8; from++) {
        int place = from;
        int days = 0;
        for (int i = 0; i < 8; i++) {
          int[] a = ask(t, sender, day, day, place);
          if (a[0] != 1) break;
          days += road(place, a[1]);
          place = a[1];
          if (place == from) {
            which |= 1 << from;
            if (fewest == 0 || days < fewest) fewest = days;
            break;
          }
        }
      }
      return what == 0 ? which : fewest;
    }

    int chain(int a, int b) {
      TreeSet<Integer> seen = new TreeSet<>(List.of(a));
      for (int steps = 0; steps < 13; steps++) {
        if (seen.contains(b)) return steps;
        TreeSet<Integer> more = new TreeSet<>(seen);
        for (int p : seen) for (int q = 0; q < people(); q++) if (knows(p, q)) more.add(q);
        seen = more;
      }
      return -2;
    }

    // -- calls --

    int answer(String name, int[] a) {
      switch (name) {
        case "road": return tellRoad(a);
        case "person":
          if (people() == 12 || !isPlace(a[0])) return -1;
          now.start.add(a[0]);
          return people() - 1;
        case "change": return tellChange(a);
        case "knows": {
          if (!two(a[0], a[1])) return 0;
          return (a[2] != 0 ? now.knows.add(List.of(a[0], a[1])) : now.knows.remove(List.of(a[0], a[1]))) ? 1 : 0;
        }
        case "worth": {
          if (a[0] < 0 || a[0] > 16 || a[1] < 0 || a[1] > 99) return -1;
          int was = now.worth[a[0]];
          now.worth[a[0]] = a[1];
          return was;
        }
        case "feed":
          if (tape.size() + 20 > 400) return -1;
          for (int n : a) for (int k = 3; k >= 0; k--) tape.add(n >> 8 * k & 255);
          return tape.size();
        case "end":
          if (a[0] < 0 || a[0] > tape.size()) return -1;
          tape = new ArrayList<>(tape.subList(0, a[0]));
          return a[0];
        case "cover": {
          if (covers.size() == 8) return -1;
          List<Integer> text = tape;
          tape = new ArrayList<>();
          try {
            covers.add(read(text));
          } catch (Fault f) {
            return -2 - f.number;
          }
          return covers.size() - 1;
        }
        case "marks": return isPerson(a[0]) && isDay(a[1]) ? words(a[0], 0, a[1]) & 1023 : -1;
        case "ties": {
          if (!isPerson(a[0]) || a[1] < 0 || a[1] > 5 || !isDay(a[2])) return -1;
          int b = 0;
          for (int q = 0; q < people(); q++) if (tie(a[0], a[1], q, a[2])) b |= 1 << q;
          return b;
        }
        case "lives": return isPerson(a[0]) && isDay(a[1]) ? lives(a[0], a[1]) : -1;
        case "sees": return isPerson(a[0]) && isDay(a[1]) ? seen(a[0], a[1]) : -1;
        case "far": return isPlace(a[0]) && isPlace(a[1]) ? far(a[0], a[1]) : -1;
        case "fits":
          if (cover(a[0]) == null || !isPerson(a[1]) || !isDay(a[2]) || !isDay(a[3]) || a[4] != -1 && !isPerson(a[4])) return -2;
          return bits(fits(cover(a[0]), a[1], a[2], a[3], a[4], true));
        case "asked":
          if (cover(a[0]) == null || !isPerson(a[1]) || !isDay(a[2]) || !isDay(a[3]) || !isPlace(a[4]) || a[5] < 0 || a[5] > 2) return -2;
          return ask(cover(a[0]), a[1], a[2], a[3], a[4])[a[5]];
        default: return answerLetters(name, a);
      }
    }

    int seen(int p, int day) {
      int b = 0;
      for (int q = 0; q < people(); q++) if (sees(p, q, day)) b |= 1 << q;
      return b;
    }

    int tellRoad(int[] a) {
      if (now.roads.size() == 16 || !isPlace(a[0]) || !isPlace(a[1]) || a[0] == a[1] || a[2] < 1 || a[2] > 9) return -1;
      if (road(a[0], a[1]) != 0) return -1;
      now.roads.add(a.clone());
      return now.roads.size() - 1;
    }

    int tellChange(int[] a) {
      if (now.changes.size() == 60 || !isDay(a[0]) || a[1] < 0 || a[1] > 2 || !isPerson(a[2])) return -1;
      int most = a[1] == 0 ? 9 : a[1] == 1 ? 5 : 7;
      if (a[3] < 0 || a[3] > most || a[1] == 1 && !two(a[2], a[4])) return -1;
      Change c = new Change();
      c.day = a[0]; c.kind = a[1]; c.person = a[2]; c.what = a[3]; c.other = a[4]; c.is = a[5] != 0;
      now.changes.add(c);
      return now.changes.size();
    }

    int answerLetters(String name, int[] a) {
      switch (name) {
        case "stale": case "alone": {
          if (cover(a[0]) == null || !isPerson(a[1]) || !isPerson(a[2]) || !isDay(a[3])) return -1;
          int times = 0;
          int first = -2;
          for (int d = a[3]; d < a[3] + 100 && d <= 999; d++) {
            boolean just = fits(cover(a[0]), a[1], a[3], d, -1, true).equals(Set.of(a[2]));
            if (just) times++;
            if (!just && first == -2) first = d;
          }
          return name.equals("stale") ? first : times;
        }
        case "letter": {
          if (now.letters.size() == 8 || !two(a[0], a[2]) || cover(a[1]) == null || !isPlace(a[3])) return -1;
          Sent l = new Sent();
          l.sender = a[0]; l.cover = a[1]; l.person = a[2]; l.place = a[3]; l.sent = now.now; l.day = now.now;
          l.was.add(a[3]);
          now.letters.add(l);
          return now.letters.size() - 1;
        }
        case "days":
          if (a[0] < 1 || a[0] > 60 || now.now + a[0] > 999) return -1;
          for (int i = 0; i < a[0]; i++) dayGoesBy();
          return underWay();
        case "letters": {
          if (a[0] < 0 || a[0] >= now.letters.size() || a[1] < 0 || a[1] > 5) return -2;
          Sent l = now.letters.get(a[0]);
          return new int[] {l.status, l.place, l.day, l.opener, l.opener == l.person ? 1 : 0, bits(l.was)}[a[1]];
        }
        case "sure": {
          if (!two(a[0], a[2]) || cover(a[1]) == null || !isPlace(a[3]) || !isDay(a[4]) || a[5] < 0 || a[5] > 1) return -1;
          int s = sure(cover(a[1]), a[0], a[2], a[4], a[3], 0, new HashMap<>())[a[5]];
          return s == 99999 ? -2 : s;
        }
        case "rings":
          if (cover(a[0]) == null || !isPerson(a[1]) || !isDay(a[2]) || a[3] < 0 || a[3] > 1) return -1;
          return rings(cover(a[0]), a[1], a[2], a[3]);
        case "told":
          if (a[0] == -1) now.way.clear();
          else if (!isPlace(a[0]) || now.way.size() == 20) return -2;
          else now.way.add(a[0]);
          return now.way.size();
        case "judged": {
          if (cover(a[0]) == null || !isPerson(a[1]) || !isPlace(a[2]) || !isDay(a[3])) return -1;
          Trip trip = new Trip(cover(a[0]), a[1], a[2], a[3]);
          for (int i = 0; i < now.way.size(); i++) if (!trip.step(999) || trip.place != now.way.get(i)) return i;
          return -2;
        }
        case "ends": {
          if (!isPerson(a[0]) || cover(a[1]) == null || !isPlace(a[2]) || !isDay(a[3]) || a[4] < 0 || a[4] > 4) return -2;
          Trip t = ends(cover(a[1]), a[0], a[2], a[3]);
          return new int[] {t.status, t.opener, t.day, t.place, t.goings}[a[4]];
        }
        case "copies": return copies(a);
        case "needs":
          if (!two(a[0], a[2]) || cover(a[1]) == null || !isPlace(a[3]) || !isDay(a[4]) || a[5] < 0 || a[5] > 2) return -1;
          return needs(a[0], cover(a[1]), a[2], a[3], a[4], a[5]);
        default: return answerOthers(name, a);
      }
    }

    int copies(int[] a) {
      if (!two(a[0], a[2]) || cover(a[1]) == null || !isPlace(a[3]) || !isPlace(a[4]) || !isDay(a[5]) || a[6] < 0 || a[6] > 1) return -1;
      int[] days = new int[2];
      for (int i = 0; i < 2; i++) {
        Trip t = ends(cover(a[1]), a[0], a[3 + i], a[5]);
        days[i] = t.status == 1 && t.opener == a[2] ? t.day : 99999;
      }
      int when = Math.min(days[0], days[1]);
      if (when == 99999) return -2;
      return a[6] == 1 ? when : days[0] == days[1] ? 2 : days[0] == when ? 0 : 1;
    }

    static boolean isSpan(int from, int to) { return isDay(from) && isDay(to) && from <= to && to - from + 1 <= 31; }

    int answerOthers(String name, int[] a) {
      switch (name) {
        case "cheapest":
          if (!two(a[0], a[1]) || !isSpan(a[2], a[3]) || a[4] < 0 || a[4] > 4) return -1;
          return cheapest(a[0], a[1], a[2], a[3], a[4]);
        case "apart": return isSpan(a[0], a[1]) && a[2] >= 0 && a[2] <= 1 ? apart(a[0], a[1], a[2]) : -1;
        case "mends":
          if (cover(a[0]) == null || !isPerson(a[1]) || !isPerson(a[2]) || !isDay(a[3])) return -1;
          return mends(cover(a[0]), a[1], a[2], a[3]);
        case "tellers": case "lied": {
          if (cover(a[0]) == null || !isPerson(a[1]) || !isDay(a[2])) return -1;
          int b = 0;
          int truth = bits(fits(cover(a[0]), a[1], a[2], a[2], -1, true));
          for (int p = 0; p < people(); p++) {
            int f = bits(fits(cover(a[0]), a[1], a[2], a[2], p, true));
            if (name.equals("tellers") ? f != 0 : f != (truth & seen(p, a[2]))) b |= 1 << p;
          }
          return b;
        }
        case "chain": return isPerson(a[0]) && isPerson(a[1]) ? chain(a[0], a[1]) : -1;
        case "circle": {
          if (!isPerson(a[0])) return -1;
          int b = 0;
          for (int q = 0; q < people(); q++) if (chain(a[0], q) >= 0) b |= 1 << q;
          return b;
        }
        case "strangers": {
          if (!isDay(a[0])) return -1;
          int n = 0;
          for (int p = 0; p < people(); p++) for (int q = p + 1; q < people(); q++) if (!sees(p, q, a[0]) && !sees(q, p, a[0])) n++;
          return n;
        }
        case "often": {
          int[] n = new int[12];
          int most = -2;
          for (Sent l : now.letters) if (l.status == 1) n[l.opener]++;
          for (int p = 11; p >= 0; p--) if (n[p] > 0 && (most == -2 || n[p] >= n[most])) most = p;
          return most;
        }
        case "count": return count(a[0]);
        case "image":
          if (a[0] < 0 || a[0] > 3) return -1;
          images[a[0]] = now.copy();
          return now.now;
        case "back":
          if (a[0] < 0 || a[0] > 3 || images[a[0]] == null) return -1;
          now = images[a[0]].copy();
          return now.now;
        default: throw new IllegalStateException(name);
      }
    }

    int count(int what) {
      switch (what) {
        case 0: return people();
        case 1: return now.roads.size();
        case 2: return now.changes.size();
        case 3: return covers.size();
        case 4: return now.letters.size();
        case 5: return underWay();
        case 6: { int n = 0; for (Sent l : now.letters) if (l.status == 1 && l.opener == l.person) n++; return n; }
        case 7: return now.now;
        case 8: return now.way.size();
        case 9: return tape.size();
        default: return -1;
      }
    }
  }
}
