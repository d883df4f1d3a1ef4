import java.util.Arrays;

/**
 * A post without names: people with marks, ties and places that change by days, covers that fit
 * whoever is as they say, and letters that are asked on from place to place.
 *
 * <p>Sets of people, places, marks and words are bits of an int throughout, since the face answers
 * them so and no set has more than sixteen members.
 */
public final class NamelessPost {
  public static final int NONE = -1;

  private static final int NO = -2;
  private static final int MOST_PEOPLE = 12;
  private static final int PLACES = 8;
  private static final int MOST_ROADS = 16;
  private static final int LONGEST_ROAD = 9;
  private static final int LAST_DAY = 999;
  private static final int MARKS = 10;
  private static final int TIES = 6;
  private static final int WORDS = MARKS + TIES;
  private static final int MOST_CHANGES = 60;
  private static final int MOST_COVERS = 8;
  private static final int LONGEST_TEXT = 400;
  private static final int FED_AT_ONCE = 20;
  private static final int MOST_LETTERS = 8;
  private static final int LONGEST_WAY = 20;
  private static final int MOST_IMAGES = 4;
  private static final int MOST_WORTH = 99;
  private static final int MOST_DAYS_AT_ONCE = 60;
  private static final int LONGEST_SPAN = 31;
  private static final int LOOKED_AHEAD = 99;
  private static final int MOST_GOINGS = 100;
  private static final int SURE_WITHIN = 60;
  private static final int NEEDS_NO_WORD = 32;

  private static final int MARK = 0;
  private static final int TIE = 1;
  private static final int PLACE = 2;

  private static final int OPENED = 0;
  private static final int GOES_ON = 1;
  private static final int NOBODY_TELLS = 2;

  private final State state = new State();
  private final Past past = new Past(state);
  private final Ways ways = new Ways();
  private final Fitter fitter = new Fitter();
  private final Carrier carrier = new Carrier(state, past, ways, fitter);
  private final SureSearch sureSearch = new SureSearch();
  private final HitSearch hitSearch = new HitSearch();
  private final CoverReader coverReader = new CoverReader();
  private final Letter trip = new Letter();
  private final Cover[] covers = new Cover[MOST_COVERS];
  private int coverCount;
  private final int[] tape = new int[LONGEST_TEXT];
  private int tapeLength;
  private final State[] images = new State[MOST_IMAGES];
  /** Rows of rings and often, made once for all calls. */
  private final int[] nextPlace = new int[PLACES];
  private final int[] openedBy = new int[MOST_PEOPLE];

  public NamelessPost() {}

  // ---- what is told ----

  public int road(int one, int other, int days) {
    if (!isPlace(one) || !isPlace(other) || one == other || days < 1 || days > LONGEST_ROAD) {
      return NONE;
    }
    if (state.roads >= MOST_ROADS || state.roadDays[one * PLACES + other] != 0) {
      return NONE;
    }
    state.roadDays[one * PLACES + other] = days;
    state.roadDays[other * PLACES + one] = days;
    ways.measure(state.roadDays);
    return state.roads++;
  }

  public int person(int place) {
    if (state.people >= MOST_PEOPLE || !isPlace(place)) {
      return NONE;
    }
    state.start[state.people] = place;
    forgetFacts(NONE);
    return state.people++;
  }

  public int change(int day, int kind, int person, int what, int other, boolean is) {
    if (state.changes >= MOST_CHANGES || !isDay(day) || !isPerson(person) || what < 0) {
      return NONE;
    }
    boolean fine;
    if (kind == MARK) {
      fine = what < MARKS;
    } else if (kind == TIE) {
      fine = what < TIES && areTwo(person, other);
    } else {
      fine = kind == PLACE && what < PLACES;
    }
    if (!fine) {
      return NONE;
    }
    forgetFacts(state.addChange(day, kind, person, what, kind == TIE ? other : 0, is));
    return state.changes;
  }

  public boolean knows(int one, int other, boolean is) {
    if (!areTwo(one, other) || hasBit(state.known[one], other) == is) {
      return false;
    }
    state.known[one] ^= 1 << other;
    return true;
  }

  public int worth(int of, int n) {
    if (of < 0 || of > WORDS || n < 0 || n > MOST_WORTH) {
      return NONE;
    }
    int before = state.worths[of];
    state.worths[of] = n;
    return before;
  }

  // ---- covers ----

  public int feed(int a, int b, int c, int d, int e) {
    if (tapeLength > LONGEST_TEXT - FED_AT_ONCE) {
      return NONE;
    }
    putBytes(a);
    putBytes(b);
    putBytes(c);
    putBytes(d);
    putBytes(e);
    return tapeLength;
  }

  public int end(int n) {
    if (n < 0 || n > tapeLength) {
      return NONE;
    }
    tapeLength = n;
    return n;
  }

  public int cover() {
    if (coverCount >= MOST_COVERS) {
      return NONE;
    }
    int fault = coverReader.read(tape, tapeLength);
    tapeLength = 0;
    if (fault != 0) {
      return -2 - fault;
    }
    covers[coverCount] = coverReader.newCover(coverCount);
    return coverCount++;
  }

  // ---- what is so on a day ----

  public int marks(int person, int day) {
    if (!isPerson(person) || !isDay(day)) {
      return NONE;
    }
    return past.on(day).marksOf(person);
  }

  public int ties(int person, int tie, int day) {
    if (!isPerson(person) || tie < 0 || tie >= TIES || !isDay(day)) {
      return NONE;
    }
    return past.on(day).tied[tie * MOST_PEOPLE + person];
  }

  public int lives(int person, int day) {
    if (!isPerson(person) || !isDay(day)) {
      return NONE;
    }
    return past.on(day).placeOf[person];
  }

  public int sees(int person, int day) {
    if (!isPerson(person) || !isDay(day)) {
      return NONE;
    }
    return seenBy(person, past.on(day));
  }

  public int far(int one, int other) {
    if (!isPlace(one) || !isPlace(other)) {
      return NONE;
    }
    int length = ways.length[one * PLACES + other];
    return length == Ways.NO_WAY ? NO : length;
  }

  public int fits(int cover, int sender, int sent, int day, int reader) {
    Cover read = coverOf(cover);
    if (read == null || !isPerson(sender) || !isDay(sent) || !isDay(day)) {
      return NO;
    }
    if (reader != NONE && !isPerson(reader)) {
      return NO;
    }
    return fitFor(read, sender, sent, day, reader);
  }

  public int stale(int cover, int sender, int person, int day) {
    Cover read = coverOf(cover);
    if (read == null || !isPerson(sender) || !isPerson(person) || !isDay(day)) {
      return NONE;
    }
    int last = Math.min(day + LOOKED_AHEAD, LAST_DAY);
    for (int on = day; on <= last; on++) {
      if (fitFor(read, sender, day, on, NONE) != 1 << person) {
        return on;
      }
    }
    return NO;
  }

  public int alone(int cover, int sender, int person, int day) {
    Cover read = coverOf(cover);
    if (read == null || !isPerson(sender) || !isPerson(person) || !isDay(day)) {
      return NONE;
    }
    int last = Math.min(day + LOOKED_AHEAD, LAST_DAY);
    int times = 0;
    for (int on = day; on <= last; on++) {
      if (fitFor(read, sender, day, on, NONE) == 1 << person) {
        times++;
      }
    }
    return times;
  }

  public int tellers(int cover, int sender, int day) {
    Cover read = coverOf(cover);
    if (read == null || !isPerson(sender) || !isDay(day)) {
      return NONE;
    }
    int tellers = 0;
    for (int one = 0; one < state.people; one++) {
      if (fitFor(read, sender, day, day, one) != 0) {
        tellers |= 1 << one;
      }
    }
    return tellers;
  }

  public int lied(int cover, int sender, int day) {
    Cover read = coverOf(cover);
    if (read == null || !isPerson(sender) || !isDay(day)) {
      return NONE;
    }
    int truth = fitFor(read, sender, day, day, NONE);
    int lied = 0;
    for (int one = 0; one < state.people; one++) {
      if (fitFor(read, sender, day, day, one) != (truth & seenBy(one, past.on(day)))) {
        lied |= 1 << one;
      }
    }
    return lied;
  }

  public int mends(int cover, int sender, int person, int day) {
    Cover read = coverOf(cover);
    if (read == null || !isPerson(sender) || !isPerson(person) || !isDay(day)) {
      return NONE;
    }
    Snapshot today = past.on(day);
    int fit = fitter.evaluate(read, sender, today, everybody());
    if (fit == 1 << person) {
      return NEEDS_NO_WORD;
    }
    int best = NO;
    int least = 0;
    for (int word = 0; word < 2 * WORDS; word++) {
      boolean not = word >= WORDS;
      int held = today.wordHolders(not ? word - WORDS : word, sender);
      int price = not ? state.worths[word - WORDS] + state.worths[WORDS] : state.worths[word];
      boolean mended = (fit & (not ? ~held : held)) == 1 << person;
      if (mended && (best == NO || price < least)) {
        best = word;
        least = price;
      }
    }
    return best;
  }

  // ---- letters ----

  public int asked(int cover, int sender, int sent, int day, int place, int what) {
    Cover read = coverOf(cover);
    if (read == null || !isPerson(sender) || !isDay(sent) || !isDay(day)) {
      return NO;
    }
    if (!isPlace(place) || what < 0 || what > 2) {
      return NO;
    }
    carrier.ask(read, sender, sent, day, place);
    if (what == 0) {
      return carrier.how;
    }
    return what == 1 ? carrier.whom : carrier.teller;
  }

  public int letter(int sender, int cover, int person, int place) {
    Cover read = coverOf(cover);
    if (state.letters >= MOST_LETTERS || read == null) {
      return NONE;
    }
    if (!areTwo(sender, person) || !isPlace(place)) {
      return NONE;
    }
    state.post[state.letters].begin(read, sender, person, place, state.now);
    return state.letters++;
  }

  public int days(int n) {
    if (n < 1 || n > MOST_DAYS_AT_ONCE || state.now + n > LAST_DAY) {
      return NONE;
    }
    for (int gone = 0; gone < n; gone++) {
      carrier.oneDay();
    }
    return state.howManyAre(Letter.UNDER_WAY);
  }

  public int letters(int letter, int what) {
    if (letter < 0 || letter >= state.letters) {
      return NO;
    }
    Letter told = state.post[letter];
    switch (what) {
      case 0:
        return told.status;
      case 1:
        return told.place;
      case 2:
        return told.day;
      case 3:
        return told.opener;
      case 4:
        return told.isRight() ? 1 : 0;
      case 5:
        return told.visited;
      default:
        return NO;
    }
  }

  public int sure(int sender, int cover, int person, int place, int day, int what) {
    Cover read = coverOf(cover);
    if (read == null || !areTwo(sender, person) || !isPlace(place) || !isDay(day)) {
      return NONE;
    }
    if (what < 0 || what > 1) {
      return NONE;
    }
    trip.begin(read, sender, person, place, day);
    sureSearch.spread(trip, carrier, state.roadDays);
    sureSearch.judge(person, state.roadDays);
    return what == 0 ? sureSearch.sureFrom(place) : sureSearch.soonFrom(place);
  }

  public int rings(int cover, int sender, int day, int what) {
    Cover read = coverOf(cover);
    if (read == null || !isPerson(sender) || !isDay(day) || what < 0 || what > 1) {
      return NONE;
    }
    for (int place = 0; place < PLACES; place++) {
      carrier.ask(read, sender, day, day, place);
      nextPlace[place] = carrier.how == GOES_ON ? carrier.whom : NONE;
    }
    int inRings = 0;
    int fewest = 0;
    for (int place = 0; place < PLACES; place++) {
      int round = daysOfRound(place);
      if (round > 0) {
        inRings |= 1 << place;
        fewest = fewest == 0 ? round : Math.min(fewest, round);
      }
    }
    return what == 0 ? inRings : fewest;
  }

  public int told(int place) {
    if (place == NONE) {
      state.wayLength = 0;
      return 0;
    }
    if (!isPlace(place) || state.wayLength >= LONGEST_WAY) {
      return NO;
    }
    state.way[state.wayLength] = place;
    state.wayLength++;
    return state.wayLength;
  }

  public int judged(int cover, int sender, int place, int day) {
    Cover read = coverOf(cover);
    if (read == null || !isPerson(sender) || !isPlace(place) || !isDay(day)) {
      return NONE;
    }
    trip.begin(read, sender, NONE, place, day);
    for (int i = 0; i < state.wayLength; i++) {
      int next = carrier.askOn(trip);
      if (next != state.way[i] || !carrier.comesInTime(trip, next)) {
        return i;
      }
      carrier.goTo(trip, next);
    }
    return NO;
  }

  public int ends(int sender, int cover, int place, int day, int what) {
    Cover read = coverOf(cover);
    if (read == null || !isPerson(sender) || !isPlace(place) || !isDay(day)) {
      return NO;
    }
    if (what < 0 || what > 4) {
      return NO;
    }
    trip.begin(read, sender, NONE, place, day);
    carrier.goToEnd(trip);
    switch (what) {
      case 0:
        return trip.status;
      case 1:
        return trip.opener;
      case 2:
        return trip.day;
      case 3:
        return trip.place;
      default:
        return trip.goings;
    }
  }

  public int needs(int sender, int cover, int person, int place, int day, int what) {
    Cover read = coverOf(cover);
    if (read == null || !areTwo(sender, person) || !isPlace(place) || !isDay(day)) {
      return NONE;
    }
    if (what < 0 || what > 2) {
      return NONE;
    }
    trip.begin(read, sender, person, place, day);
    int many = carrier.findNeeds(trip);
    if (what == 0) {
      return many;
    }
    return what == 1 ? carrier.firstTwo : carrier.secondTwo;
  }

  public int copies(
      int sender, int cover, int person, int one, int other, int day, int what) {
    Cover read = coverOf(cover);
    if (read == null || !areTwo(sender, person) || !isPlace(one) || !isPlace(other)) {
      return NONE;
    }
    if (!isDay(day) || what < 0 || what > 1) {
      return NONE;
    }
    int first = dayRight(read, sender, person, one, day);
    int second = dayRight(read, sender, person, other, day);
    if (first == NO && second == NO) {
      return NO;
    }
    int which;
    if (first == second) {
      which = 2;
    } else {
      which = second == NO || (first != NO && first < second) ? 0 : 1;
    }
    if (what == 0) {
      return which;
    }
    return which == 1 ? second : first;
  }

  public int often() {
    Arrays.fill(openedBy, 0);
    for (int i = 0; i < state.letters; i++) {
      int opener = state.post[i].opener;
      if (isPerson(opener)) {
        openedBy[opener]++;
      }
    }
    int most = NO;
    for (int one = 0; one < state.people; one++) {
      if (openedBy[one] > (most == NO ? 0 : openedBy[most])) {
        most = one;
      }
    }
    return most;
  }

  // ---- the cheapest cover, telling apart ----

  public int cheapest(int sender, int person, int from, int to, int what) {
    if (!areTwo(sender, person) || !isSpan(from, to) || what < 0 || what > 4) {
      return NONE;
    }
    int always = -1;
    int ever = 0;
    for (int day = from; day <= to; day++) {
      int words = past.on(day).wordsOf(person, sender);
      always &= words;
      ever |= words;
    }
    int allWords = (1 << WORDS) - 1;
    int held = (always | ~ever) & allWords;
    int negated = held & ~ever;
    hitSearch.clear();
    for (int day = from; day <= to; day++) {
      int alike = addUnlikeWords(past.on(day), sender, person, held);
      if (alike != NONE) {
        return what == 3 ? day : what == 4 ? alike : NO;
      }
    }
    if (what > 2) {
      return NO;
    }
    for (int word = 0; word < WORDS; word++) {
      int not = hasBit(negated, word) ? state.worths[WORDS] : 0;
      hitSearch.price[word] = state.worths[word] + not;
    }
    hitSearch.solve();
    if (what == 0) {
      return hitSearch.bestPrice;
    }
    return what == 1 ? hitSearch.best : hitSearch.best & negated;
  }

  public int apart(int from, int to, int what) {
    if (!isSpan(from, to) || what < 0 || what > 1) {
      return NONE;
    }
    hitSearch.clear();
    Snapshot before = null;
    for (int day = from; day <= to; day++) {
      Snapshot today = past.on(day);
      if (today != before) {
        addUnlikeMarks(today);
      }
      before = today;
    }
    if (what == 1) {
      return hitSearch.single;
    }
    if (hitSearch.hopeless) {
      return NO;
    }
    // Marks have no price here, so that the fewest, then the least, are left to choose by.
    Arrays.fill(hitSearch.price, 0);
    hitSearch.solve();
    return hitSearch.best;
  }

  // ---- acquaintance ----

  public int chain(int one, int other) {
    if (!isPerson(one) || !isPerson(other)) {
      return NONE;
    }
    int reached = 1 << one;
    for (int steps = 0; steps < MOST_PEOPLE; steps++) {
      if (hasBit(reached, other)) {
        return steps;
      }
      reached = withKnown(reached);
    }
    return NO;
  }

  public int circle(int person) {
    if (!isPerson(person)) {
      return NONE;
    }
    int reached = 1 << person;
    for (int steps = 0; steps < MOST_PEOPLE; steps++) {
      reached = withKnown(reached);
    }
    return reached;
  }

  public int strangers(int day) {
    if (!isDay(day)) {
      return NONE;
    }
    Snapshot today = past.on(day);
    int twos = 0;
    for (int one = 0; one < state.people; one++) {
      for (int other = 0; other < one; other++) {
        boolean seen = hasBit(seenBy(one, today), other) || hasBit(seenBy(other, today), one);
        twos += seen ? 0 : 1;
      }
    }
    return twos;
  }

  // ---- counts and images ----

  public int count(int what) {
    switch (what) {
      case 0:
        return state.people;
      case 1:
        return state.roads;
      case 2:
        return state.changes;
      case 3:
        return coverCount;
      case 4:
        return state.letters;
      case 5:
        return state.howManyAre(Letter.UNDER_WAY);
      case 6:
        return state.howManyAreRight();
      case 7:
        return state.now;
      case 8:
        return state.wayLength;
      case 9:
        return tapeLength;
      default:
        return NONE;
    }
  }

  public int image(int k) {
    if (k < 0 || k >= MOST_IMAGES) {
      return NONE;
    }
    State kept = images[k];
    if (kept == null) {
      kept = new State();
      images[k] = kept;
    }
    kept.copyFrom(state);
    return state.now;
  }

  public int back(int k) {
    if (k < 0 || k >= MOST_IMAGES) {
      return NONE;
    }
    State kept = images[k];
    if (kept == null) {
      return NONE;
    }
    state.copyFrom(kept);
    forgetFacts(NONE);
    ways.measure(state.roadDays);
    return state.now;
  }

  // ---- helpers of the face ----

  private boolean isPerson(int one) {
    return one >= 0 && one < state.people;
  }

  private boolean areTwo(int one, int other) {
    return isPerson(one) && isPerson(other) && one != other;
  }

  private static boolean isPlace(int place) {
    return place >= 0 && place < PLACES;
  }

  private static boolean isDay(int day) {
    return day >= 0 && day <= LAST_DAY;
  }

  private static boolean isSpan(int from, int to) {
    return isDay(from) && isDay(to) && from <= to && to - from < LONGEST_SPAN;
  }

  private static boolean hasBit(int bits, int n) {
    return (bits >> n & 1) == 1;
  }

  /** The least member of a set; NONE of an empty one. */
  private static int leastOf(int bits) {
    return bits == 0 ? NONE : Integer.bitCount((bits & -bits) - 1);
  }

  private Cover coverOf(int number) {
    return number < 0 || number >= coverCount ? null : covers[number];
  }

  private int everybody() {
    return (1 << state.people) - 1;
  }

  private int seenBy(int one, Snapshot today) {
    return today.seenFrom(one, state.known[one]);
  }

  /** What was worked out of facts no longer holds, but for the first so many changes. */
  private void forgetFacts(int changesKept) {
    past.keepUpTo(changesKept);
    fitter.forget();
  }

  private void putBytes(int number) {
    for (int shift = 24; shift >= 0; shift -= 8) {
      if (tapeLength < LONGEST_TEXT) {
        tape[tapeLength] = number >>> shift & 255;
        tapeLength++;
      }
    }
  }

  private int fitFor(Cover read, int sender, int sent, int day, int reader) {
    Snapshot today = past.on(day);
    Snapshot facts = read.then ? today : past.on(sent);
    int seen = reader == NONE ? everybody() : seenBy(reader, today);
    return fitter.fit(read, sender, facts, seen);
  }

  /** The days of the round from a place, by nextPlace, back to it; 0 if it does not come back. */
  private int daysOfRound(int from) {
    int place = from;
    int round = 0;
    for (int steps = 0; steps < PLACES; steps++) {
      int to = nextPlace[place];
      if (to == NONE) {
        return 0;
      }
      round += state.roadDays[place * PLACES + to];
      place = to;
      if (place == from) {
        return round;
      }
    }
    return 0;
  }

  /** The day on which a letter ends right; NO if it does not. */
  private int dayRight(Cover read, int sender, int person, int place, int day) {
    trip.begin(read, sender, person, place, day);
    carrier.goToEnd(trip);
    return trip.isRight() ? trip.day : NO;
  }

  /** Adds what tells each other one from the one; answers the least who is alike, or NONE. */
  private int addUnlikeWords(Snapshot today, int sender, int person, int held) {
    int words = today.wordsOf(person, sender);
    for (int other = 0; other < state.people; other++) {
      if (other != person) {
        int unlike = (today.wordsOf(other, sender) ^ words) & held;
        if (unlike == 0) {
          return other;
        }
        hitSearch.add(unlike);
      }
    }
    return NONE;
  }

  private void addUnlikeMarks(Snapshot today) {
    for (int one = 1; one < state.people; one++) {
      int marksOfOne = today.marksOf(one);
      for (int other = 0; other < one; other++) {
        hitSearch.add(marksOfOne ^ today.marksOf(other));
      }
    }
  }

  private int withKnown(int reached) {
    int more = reached;
    for (int one = 0; one < state.people; one++) {
      if (hasBit(reached, one)) {
        more |= state.known[one];
      }
    }
    return more;
  }

  // ---- what an image holds ----

  private static final class State {
    int people;
    final int[] start = new int[MOST_PEOPLE];
    int roads;
    /** The days of the road from place to place at 8 * one + other; 0: there is none. */
    final int[] roadDays = new int[PLACES * PLACES];
    int changes;
    /** In the order in which they take hold: by days, those of one day as told. */
    final int[] change = new int[MOST_CHANGES];
    final int[] known = new int[MOST_PEOPLE];
    final int[] worths = new int[WORDS + 1];
    int letters;
    final Letter[] post = new Letter[MOST_LETTERS];
    int now;
    int wayLength;
    final int[] way = new int[LONGEST_WAY];

    State() {
      Arrays.fill(worths, 1);
      for (int i = 0; i < MOST_LETTERS; i++) {
        post[i] = new Letter();
      }
    }

    void copyFrom(State other) {
      people = other.people;
      roads = other.roads;
      changes = other.changes;
      letters = other.letters;
      now = other.now;
      wayLength = other.wayLength;
      System.arraycopy(other.start, 0, start, 0, MOST_PEOPLE);
      System.arraycopy(other.roadDays, 0, roadDays, 0, PLACES * PLACES);
      System.arraycopy(other.change, 0, change, 0, MOST_CHANGES);
      System.arraycopy(other.known, 0, known, 0, MOST_PEOPLE);
      System.arraycopy(other.worths, 0, worths, 0, WORDS + 1);
      System.arraycopy(other.way, 0, way, 0, LONGEST_WAY);
      for (int i = 0; i < MOST_LETTERS; i++) {
        post[i].copyFrom(other.post[i]);
      }
    }

    /** Answers behind how many changes the new one takes hold. */
    int addChange(int day, int kind, int person, int what, int other, boolean is) {
      int at = changes;
      for (; at > 0 && dayOfChange(change[at - 1]) > day; at--) {
        change[at] = change[at - 1];
      }
      // One number a change, so that they are shifted and copied with ease.
      change[at] = day << 15 | kind << 13 | person << 9 | what << 5 | other << 1 | (is ? 1 : 0);
      changes++;
      return at;
    }

    static int dayOfChange(int packed) {
      return packed >> 15;
    }

    int howManyAre(int status) {
      int many = 0;
      for (int i = 0; i < letters; i++) {
        many += post[i].status == status ? 1 : 0;
      }
      return many;
    }

    int howManyAreRight() {
      int many = 0;
      for (int i = 0; i < letters; i++) {
        many += post[i].isRight() ? 1 : 0;
      }
      return many;
    }
  }

  private static final class Letter {
    static final int UNDER_WAY = 0;
    static final int WAS_OPENED = 1;
    static final int SENT_BACK = 2;

    Cover text;
    int sender;
    int person;
    int from;
    int sent;
    int status;
    int place;
    int day;
    int opener = NONE;
    int visited;
    int goings;
    /** All who were asked on its way. */
    int asked;

    void begin(Cover text, int sender, int person, int from, int sent) {
      this.text = text;
      this.sender = sender;
      this.person = person;
      this.from = from;
      this.sent = sent;
      beginAgain();
    }

    void beginAgain() {
      status = UNDER_WAY;
      place = from;
      day = sent;
      opener = NONE;
      visited = 1 << from;
      goings = 0;
      asked = 0;
    }

    boolean isRight() {
      return status == WAS_OPENED && opener == person;
    }

    void copyFrom(Letter other) {
      text = other.text;
      sender = other.sender;
      person = other.person;
      from = other.from;
      sent = other.sent;
      status = other.status;
      place = other.place;
      day = other.day;
      opener = other.opener;
      visited = other.visited;
      goings = other.goings;
      asked = other.asked;
    }
  }

  // ---- days ----

  /** All marks, ties and places behind the first so many changes. */
  private static final class Snapshot {
    final int done;
    /** Who has each mark. */
    final int[] marked = new int[MARKS];
    /** To whom one has a tie, at 12 * tie + one. */
    final int[] tied = new int[TIES * MOST_PEOPLE];
    final int[] placeOf = new int[MOST_PEOPLE];
    /** Who is at each place. */
    final int[] at = new int[PLACES];

    Snapshot(int done) {
      this.done = done;
    }

    void beginWith(State state) {
      Arrays.fill(marked, 0);
      Arrays.fill(tied, 0);
      Arrays.fill(at, 0);
      for (int one = 0; one < state.people; one++) {
        placeOf[one] = state.start[one];
        at[placeOf[one]] |= 1 << one;
      }
    }

    /** Becomes as the one before it with one change more. */
    void follow(Snapshot before, int packed) {
      System.arraycopy(before.marked, 0, marked, 0, MARKS);
      System.arraycopy(before.tied, 0, tied, 0, TIES * MOST_PEOPLE);
      System.arraycopy(before.placeOf, 0, placeOf, 0, MOST_PEOPLE);
      System.arraycopy(before.at, 0, at, 0, PLACES);
      int kind = packed >> 13 & 3;
      int one = packed >> 9 & 15;
      int what = packed >> 5 & 15;
      int other = packed >> 1 & 15;
      boolean is = (packed & 1) == 1;
      if (kind == MARK) {
        marked[what] = is ? marked[what] | 1 << one : marked[what] & ~(1 << one);
      } else if (kind == TIE) {
        int tie = what * MOST_PEOPLE + one;
        tied[tie] = is ? tied[tie] | 1 << other : tied[tie] & ~(1 << other);
      } else {
        at[placeOf[one]] &= ~(1 << one);
        placeOf[one] = what;
        at[what] |= 1 << one;
      }
    }

    int marksOf(int one) {
      int marks = 0;
      for (int mark = 0; mark < MARKS; mark++) {
        marks |= (marked[mark] >> one & 1) << mark;
      }
      return marks;
    }

    /** Marks, and ties to the sender, as bits. */
    int wordsOf(int one, int sender) {
      int words = marksOf(one);
      for (int tie = 0; tie < TIES; tie++) {
        words |= (tied[tie * MOST_PEOPLE + one] >> sender & 1) << MARKS + tie;
      }
      return words;
    }

    /** Of whom a mark, or a tie to the sender, holds. */
    int wordHolders(int word, int sender) {
      if (word < MARKS) {
        return marked[word];
      }
      int holders = 0;
      for (int one = 0; one < MOST_PEOPLE; one++) {
        holders |= (tied[(word - MARKS) * MOST_PEOPLE + one] >> sender & 1) << one;
      }
      return holders;
    }

    int seenFrom(int one, int known) {
      return 1 << one | known | at[placeOf[one]];
    }
  }

  /** The snapshots, each made when it is first asked for and kept as long as it holds. */
  private static final class Past {
    final State state;
    final Snapshot[] made = new Snapshot[MOST_CHANGES + 1];
    /** The last of the snapshots that hold; none up to it is null. */
    int last = NONE;

    Past(State state) {
      this.state = state;
    }

    void keepUpTo(int changes) {
      last = Math.min(last, changes);
    }

    Snapshot on(int day) {
      int done = 0;
      for (int step = 32; step > 0; step /= 2) {
        int tried = done + step;
        if (tried <= state.changes && State.dayOfChange(state.change[tried - 1]) <= day) {
          done = tried;
        }
      }
      for (int next = last + 1; next <= done; next++) {
        if (made[next] == null) {
          made[next] = new Snapshot(next);
        }
        if (next == 0) {
          made[0].beginWith(state);
        } else {
          made[next].follow(made[next - 1], state.change[next - 1]);
        }
        last = next;
      }
      return made[done];
    }
  }

  // ---- roads ----

  private static final class Ways {
    static final int NO_WAY = 1000;

    /** The fewest days from place to place, at 8 * one + other. */
    final int[] length = new int[PLACES * PLACES];
    /** The least next place on a way of the fewest days; NONE without a way. */
    final int[] next = new int[PLACES * PLACES];

    Ways() {
      Arrays.fill(length, NO_WAY);
      Arrays.fill(next, NONE);
      for (int place = 0; place < PLACES; place++) {
        length[place * PLACES + place] = 0;
      }
    }

    void measure(int[] roadDays) {
      for (int i = 0; i < PLACES * PLACES; i++) {
        length[i] = roadDays[i] == 0 ? NO_WAY : roadDays[i];
      }
      for (int place = 0; place < PLACES; place++) {
        length[place * PLACES + place] = 0;
      }
      for (int over = 0; over < PLACES; over++) {
        for (int one = 0; one < PLACES; one++) {
          for (int other = 0; other < PLACES; other++) {
            int i = one * PLACES + other;
            int around = length[one * PLACES + over] + length[over * PLACES + other];
            length[i] = Math.min(length[i], around);
          }
        }
      }
      for (int i = 0; i < PLACES * PLACES; i++) {
        next[i] = nextOf(i / PLACES, i % PLACES, roadDays);
      }
    }

    private int nextOf(int one, int other, int[] roadDays) {
      int whole = length[one * PLACES + other];
      if (one == other || whole >= NO_WAY) {
        return NONE;
      }
      for (int via = 0; via < PLACES; via++) {
        int road = roadDays[one * PLACES + via];
        if (road != 0 && road + length[via * PLACES + other] == whole) {
          return via;
        }
      }
      return NONE;
    }
  }

  // ---- covers ----

  /** A cover as a row of signs, each behind what it is about. */
  private static final class Cover {
    /** A sign 0 to 9 is a mark, 10 to 15 a tie, 16 to 23 a place; the others are these. */
    static final int FIRST_TIE = 10;
    static final int AT = 16;
    static final int ME = 24;
    static final int NOT = 25;
    static final int AND = 26;
    static final int OR = 27;

    final int number;
    final int[] signs;
    final boolean only;
    final boolean then;

    Cover(int number, int[] signs, boolean only, boolean then) {
      this.number = number;
      this.signs = signs;
      this.only = only;
      this.then = then;
    }
  }

  /** Reads a text; stops at the first fault. */
  private static final class CoverReader {
    /** What may come next in a text, beside the signs of a cover. */
    static final int OPEN = 28;
    static final int CLOSE = 29;
    static final int ONLY = 30;
    static final int THEN = 31;
    static final int WRONG = 32;

    static final int DEEPEST_NEST = 10;
    static final int DEEPEST_TIE = 4;
    static final int MOST_FACTS = 30;

    static final int CANNOT_STAND = 0;
    static final int NO_PLACE = 1;
    static final int TOO_DEEP = 2;
    static final int TOO_MANY = 3;

    int[] text = new int[0];
    int length;
    /** The next word or sign is from start to stop. */
    int start;
    int stop;
    int fault;
    int facts;
    boolean only;
    boolean then;
    final int[] signs = new int[LONGEST_TEXT];
    int size;

    /** Answers the fault, or 0. */
    int read(int[] tape, int tapeLength) {
      text = tape;
      length = Math.min(tapeLength, tape.length);
      stop = 0;
      fault = 0;
      facts = 0;
      size = 0;
      only = false;
      then = false;
      readHead();
      readTest(0, 0);
      if (fault == 0) {
        look();
        if (start < length) {
          fail(CANNOT_STAND);
        }
      }
      return fault;
    }

    Cover newCover(int number) {
      return new Cover(number, Arrays.copyOf(signs, size), only, then);
    }

    private void readHead() {
      for (int words = 0; words < 2; words++) {
        int next = look();
        if (next == ONLY && !only) {
          only = true;
        } else if (next == THEN && !then) {
          then = true;
        } else {
          leave();
          return;
        }
      }
    }

    private void readTest(int nest, int ties) {
      readPart(nest, ties);
      for (int parts = 1; parts <= LONGEST_TEXT && fault == 0; parts++) {
        if (look() != Cover.OR) {
          leave();
          return;
        }
        readPart(nest, ties);
        put(Cover.OR);
      }
    }

    private void readPart(int nest, int ties) {
      readFact(nest, ties);
      for (int parts = 1; parts <= LONGEST_TEXT && fault == 0; parts++) {
        if (look() != Cover.AND) {
          leave();
          return;
        }
        readFact(nest, ties);
        put(Cover.AND);
      }
    }

    private void readFact(int nest, int ties) {
      if (fault != 0) {
        return;
      }
      int next = look();
      if (next < Cover.FIRST_TIE || next == Cover.ME) {
        countFact();
        put(next);
      } else if (next < Cover.AT) {
        if (ties >= DEEPEST_TIE) {
          fail(TOO_DEEP);
          return;
        }
        readFact(nest, ties + 1);
        put(next);
      } else if (next == Cover.AT) {
        countFact();
        readPlace();
      } else if (next == Cover.NOT || next == OPEN) {
        if (nest >= DEEPEST_NEST) {
          fail(TOO_DEEP);
          return;
        }
        readNested(next, nest + 1, ties);
      } else {
        fail(CANNOT_STAND);
      }
    }

    private void readNested(int opened, int nest, int ties) {
      if (opened == Cover.NOT) {
        readFact(nest, ties);
        put(Cover.NOT);
        return;
      }
      readTest(nest, ties);
      if (fault == 0 && look() != CLOSE) {
        fail(CANNOT_STAND);
      }
    }

    private void readPlace() {
      if (fault != 0) {
        return;
      }
      skipBlanks();
      while (stop < length && isDigit(text[stop])) {
        stop++;
      }
      if (start == stop) {
        fail(CANNOT_STAND);
      } else if (stop - start > 1 || text[start] - '0' >= PLACES) {
        fail(NO_PLACE);
      } else {
        put(Cover.AT + text[start] - '0');
      }
    }

    private void countFact() {
      facts++;
      if (facts > MOST_FACTS) {
        fail(TOO_MANY);
      }
    }

    private void put(int sign) {
      if (fault == 0 && size < LONGEST_TEXT) {
        signs[size] = sign;
        size++;
      }
    }

    private void fail(int kind) {
      if (fault == 0) {
        fault = 1 + 8 * start + kind;
      }
    }

    /** Takes the next word or sign, and tells what it is. */
    private int look() {
      skipBlanks();
      if (stop >= length) {
        return WRONG;
      }
      int first = text[stop];
      if (!isSmall(first)) {
        stop++;
        return first == '[' ? OPEN : first == ']' ? CLOSE : WRONG;
      }
      while (stop < length && isSmall(text[stop])) {
        stop++;
      }
      return stop - start == 1 ? letterSign(first) : wordSign();
    }

    /** What was taken last comes next again. */
    private void leave() {
      stop = start;
    }

    private void skipBlanks() {
      while (stop < length && text[stop] == ' ') {
        stop++;
      }
      start = stop;
    }

    private static int letterSign(int letter) {
      if (letter <= 'j') {
        return letter - 'a';
      }
      return letter >= 'u' ? Cover.FIRST_TIE + letter - 'u' : WRONG;
    }

    private int wordSign() {
      if (spells("at")) {
        return Cover.AT;
      }
      if (spells("me")) {
        return Cover.ME;
      }
      if (spells("not")) {
        return Cover.NOT;
      }
      if (spells("and")) {
        return Cover.AND;
      }
      if (spells("or")) {
        return Cover.OR;
      }
      if (spells("only")) {
        return ONLY;
      }
      return spells("then") ? THEN : WRONG;
    }

    private boolean spells(String word) {
      if (word.length() != stop - start) {
        return false;
      }
      for (int i = 0; i < word.length(); i++) {
        if (text[start + i] != word.charAt(i)) {
          return false;
        }
      }
      return true;
    }

    private static boolean isSmall(int sign) {
      return sign >= 'a' && sign <= 'z';
    }

    private static boolean isDigit(int sign) {
      return sign >= '0' && sign <= '9';
    }
  }

  /** Whom a cover fits. Answers are kept, since letters ask the same over and over. */
  private static final class Fitter {
    static final int KEPT = 1024;
    /** Spreads the keys; the highest ten bits of the product choose one of the 1024. */
    static final int SPREAD = 0x9E3779B1;

    final int[] stack = new int[LONGEST_TEXT + 1];
    final int[] keys = new int[KEPT];
    final int[] answers = new int[KEPT];
    boolean keepsAny;

    void forget() {
      if (keepsAny) {
        Arrays.fill(keys, 0);
        keepsAny = false;
      }
    }

    int fit(Cover cover, int sender, Snapshot facts, int seen) {
      int asked = (cover.number << 4 | sender) << 6 | facts.done;
      int key = (asked << MOST_PEOPLE | seen) + 1;
      int slot = key * SPREAD >>> 22;
      if (keys[slot] != key) {
        answers[slot] = evaluate(cover, sender, facts, seen);
        keys[slot] = key;
        keepsAny = true;
      }
      int fit = answers[slot];
      return cover.only && Integer.bitCount(fit) > 1 ? 0 : fit;
    }

    /** As fit, but only is not looked at. */
    int evaluate(Cover cover, int sender, Snapshot facts, int seen) {
      int top = 0;
      // A text has no more signs than bytes, so the stack, whose row 0 stays free, has room.
      for (int i = 0; i < cover.signs.length && top < LONGEST_TEXT; i++) {
        int sign = cover.signs[i];
        if (sign < Cover.FIRST_TIE) {
          top++;
          stack[top] = facts.marked[sign] & seen;
        } else if (sign < Cover.AT) {
          int whom = stack[top];
          int row = (sign - Cover.FIRST_TIE) * MOST_PEOPLE;
          stack[top] = 0;
          for (int one = 0; one < MOST_PEOPLE; one++) {
            if ((facts.tied[row + one] & whom) != 0) {
              stack[top] |= 1 << one & seen;
            }
          }
        } else if (sign < Cover.ME) {
          top++;
          stack[top] = facts.at[sign - Cover.AT] & seen;
        } else if (sign == Cover.ME) {
          top++;
          stack[top] = 1 << sender & seen;
        } else if (sign == Cover.NOT) {
          stack[top] = seen & ~stack[top];
        } else if (top > 1) {
          top--;
          int both = stack[top + 1];
          stack[top] = sign == Cover.AND ? stack[top] & both : stack[top] | both;
        }
      }
      return stack[top];
    }
  }

  // ---- letters that are asked on ----

  private static final class Carrier {
    final State state;
    final Past past;
    final Ways ways;
    final Fitter fitter;

    /** What the last asking told. */
    int how;
    int whom;
    int teller;
    int asked;

    /** What the last choosing left open. */
    int openers;
    int nexts;

    int firstTwo;
    int secondTwo;
    /** Who was asked on the way of a letter if one two more were known. */
    final int[] askedWith = new int[MOST_PEOPLE * MOST_PEOPLE];

    Carrier(State state, Past past, Ways ways, Fitter fitter) {
      this.state = state;
      this.past = past;
      this.ways = ways;
      this.fitter = fitter;
    }

    void ask(Cover text, int sender, int sent, int day, int place) {
      Snapshot today = past.on(day);
      Snapshot facts = text.then ? today : past.on(sent);
      how = NOBODY_TELLS;
      whom = NONE;
      teller = NONE;
      asked = 0;
      for (int one = 0; one < state.people && teller == NONE; one++) {
        if (!hasBit(today.at[place], one)) {
          continue;
        }
        asked |= 1 << one;
        int fit = fitter.fit(text, sender, facts, today.seenFrom(one, state.known[one]));
        int meant = hasBit(fit, one) ? one : leastOf(fit);
        if (meant == NONE) {
          continue;
        }
        int home = today.placeOf[meant];
        int next = ways.next[place * PLACES + home];
        if (home == place || next != NONE) {
          how = home == place ? OPENED : GOES_ON;
          whom = home == place ? meant : next;
          teller = one;
        }
      }
    }

    /** As ask, but whoever tells may choose among all who can be come to. */
    void choose(Cover text, int sender, int sent, int day, int place) {
      Snapshot today = past.on(day);
      Snapshot facts = text.then ? today : past.on(sent);
      openers = 0;
      nexts = 0;
      for (int one = 0; one < state.people && (openers | nexts) == 0; one++) {
        if (!hasBit(today.at[place], one)) {
          continue;
        }
        int fit = fitter.fit(text, sender, facts, today.seenFrom(one, state.known[one]));
        if (hasBit(fit, one)) {
          openers = 1 << one;
          return;
        }
        openers = fit & today.at[place];
        for (int home = 0; home < PLACES; home++) {
          int next = ways.next[place * PLACES + home];
          if ((fit & today.at[home]) != 0 && next != NONE) {
            nexts |= 1 << next;
          }
        }
      }
    }

    /** Asks where a letter is: the place to which it goes next; NONE: it ends here. */
    int askOn(Letter letter) {
      if (letter.text == null) {
        return NONE;
      }
      ask(letter.text, letter.sender, letter.sent, letter.day, letter.place);
      letter.asked |= asked;
      if (how == OPENED) {
        letter.status = Letter.WAS_OPENED;
        letter.opener = whom;
        return NONE;
      }
      int next = how == GOES_ON ? whom : nearestNew(letter);
      if (next == NONE) {
        letter.status = Letter.SENT_BACK;
      }
      return next;
    }

    private int nearestNew(Letter letter) {
      int nearest = NONE;
      int fewest = LONGEST_ROAD + 1;
      for (int place = 0; place < PLACES; place++) {
        int road = state.roadDays[letter.place * PLACES + place];
        if (road != 0 && road < fewest && !hasBit(letter.visited, place)) {
          nearest = place;
          fewest = road;
        }
      }
      return nearest;
    }

    boolean comesInTime(Letter letter, int next) {
      return letter.day + state.roadDays[letter.place * PLACES + next] <= LAST_DAY;
    }

    void goTo(Letter letter, int next) {
      letter.day += state.roadDays[letter.place * PLACES + next];
      letter.place = next;
      letter.visited |= 1 << next;
      letter.goings++;
    }

    void oneDay() {
      for (int i = 0; i < state.letters; i++) {
        Letter letter = state.post[i];
        if (letter.status == Letter.UNDER_WAY && letter.day == state.now) {
          int next = askOn(letter);
          if (next != NONE) {
            goTo(letter, next);
          }
        }
      }
      state.now++;
    }

    void goToEnd(Letter letter) {
      for (int goings = 0; goings < MOST_GOINGS; goings++) {
        int next = askOn(letter);
        if (next == NONE || !comesInTime(letter, next)) {
          return;
        }
        goTo(letter, next);
      }
    }

    /** How many twos must come to know one another; the twos are left in firstTwo, secondTwo. */
    int findNeeds(Letter letter) {
      firstTwo = NO;
      secondTwo = NO;
      if (endsRight(letter, NONE, NONE)) {
        return 0;
      }
      int twos = MOST_PEOPLE * MOST_PEOPLE;
      for (int two = 0; two < twos; two++) {
        askedWith[two] = 0;
        if (isNotKnown(two)) {
          if (endsRight(letter, two, NONE)) {
            firstTwo = two;
            return 1;
          }
          askedWith[two] = letter.asked;
        }
      }
      for (int first = 0; first < twos; first++) {
        for (int second = first + 1; second < twos; second++) {
          // Whom one knows matters only if he is asked; else one of the two alone did it.
          boolean matter =
              hasBit(askedWith[first], second / MOST_PEOPLE)
                  && hasBit(askedWith[second], first / MOST_PEOPLE);
          if (matter && endsRight(letter, first, second)) {
            firstTwo = first;
            secondTwo = second;
            return 2;
          }
        }
      }
      return NO;
    }

    private boolean isNotKnown(int two) {
      int one = two / MOST_PEOPLE;
      int other = two % MOST_PEOPLE;
      boolean both = one < state.people && other < state.people && one != other;
      return both && !hasBit(state.known[one], other);
    }

    /** Whether a letter would end right if twos who do not know one another did. */
    private boolean endsRight(Letter letter, int first, int second) {
      turnKnown(first);
      turnKnown(second);
      letter.beginAgain();
      goToEnd(letter);
      turnKnown(first);
      turnKnown(second);
      return letter.isRight();
    }

    private void turnKnown(int two) {
      if (two >= 0 && two < MOST_PEOPLE * MOST_PEOPLE) {
        state.known[two / MOST_PEOPLE] ^= 1 << two % MOST_PEOPLE;
      }
    }
  }

  /** Whether a letter comes, whatever those who are asked choose, and how soon at best. */
  private static final class SureSearch {
    static final int TIMES = SURE_WITHIN + 1;
    static final int NEVER = 1000;

    /** Places to which it can come behind so many days. */
    final int[] reached = new int[TIMES];
    /** At 8 * days gone + place: who may open it there, and to where it may go. */
    final int[] openers = new int[TIMES * PLACES];
    final int[] nexts = new int[TIMES * PLACES];
    /** Places from which it is sure behind so many days. */
    final int[] safe = new int[TIMES];
    final int[] soonest = new int[TIMES * PLACES];

    void spread(Letter letter, Carrier carrier, int[] roadDays) {
      Arrays.fill(reached, 0);
      if (letter.text == null) {
        return;
      }
      reached[0] = 1 << letter.from;
      for (int gone = 0; gone < TIMES; gone++) {
        int day = Math.min(letter.sent + gone, LAST_DAY);
        for (int place = 0; place < PLACES; place++) {
          if (hasBit(reached[gone], place)) {
            carrier.choose(letter.text, letter.sender, letter.sent, day, place);
            openers[gone * PLACES + place] = carrier.openers;
            nexts[gone * PLACES + place] = carrier.nexts;
            reach(gone, place, roadDays);
          }
        }
      }
    }

    private void reach(int gone, int place, int[] roadDays) {
      for (int next = 0; next < PLACES; next++) {
        int comes = gone + roadDays[place * PLACES + next];
        if (hasBit(nexts[gone * PLACES + place], next) && comes < TIMES) {
          reached[comes] |= 1 << next;
        }
      }
    }

    /** From the last day to the first, since each hangs on later ones alone. */
    void judge(int person, int[] roadDays) {
      Arrays.fill(safe, 0);
      Arrays.fill(soonest, NEVER);
      for (int gone = TIMES - 1; gone >= 0; gone--) {
        for (int place = 0; place < PLACES; place++) {
          if (hasBit(reached[gone], place)) {
            judgeAt(gone, place, person, roadDays);
          }
        }
      }
    }

    private void judgeAt(int gone, int place, int person, int[] roadDays) {
      int here = gone * PLACES + place;
      boolean isSafe = (openers[here] | nexts[here]) != 0 && (openers[here] & ~(1 << person)) == 0;
      int best = hasBit(openers[here], person) ? gone : NEVER;
      for (int next = 0; next < PLACES; next++) {
        if (hasBit(nexts[here], next)) {
          int comes = gone + roadDays[place * PLACES + next];
          isSafe = isSafe && comes < TIMES && hasBit(safe[comes], next);
          best = comes < TIMES ? Math.min(best, soonest[comes * PLACES + next]) : best;
        }
      }
      soonest[here] = best;
      safe[gone] |= isSafe ? 1 << place : 0;
    }

    int sureFrom(int place) {
      return hasBit(safe[0], place) ? 1 : 0;
    }

    int soonFrom(int place) {
      return soonest[place] == NEVER ? NO : soonest[place];
    }
  }

  /** The cheapest set of words with at least one out of each of some sets. */
  private static final class HitSearch {
    /** Far above the some 340 sets that others on 31 days can make. */
    static final int MOST_SETS = 512;
    /** Above the worth of any set: sixteen words, each with not, cost 3168 at most. */
    static final int TOO_DEAR = 10000;

    final int[] sets = new int[MOST_SETS];
    int size;
    final int[] price = new int[WORDS];
    /** Words that are alone in a set. */
    int single;
    /** One of the sets is empty. */
    boolean hopeless;
    int best;
    int bestPrice;
    int bestWords;

    void clear() {
      size = 0;
      single = 0;
      hopeless = false;
      best = 0;
      bestPrice = TOO_DEAR;
      bestWords = WORDS + 1;
    }

    /** A set that holds another one is hit with it, and need not be kept. */
    void add(int set) {
      if (Integer.bitCount(set) == 1) {
        single |= set;
      }
      hopeless = hopeless || set == 0;
      int kept = 0;
      for (int i = 0; i < size; i++) {
        if ((sets[i] & ~set) == 0) {
          return;
        }
      }
      for (int i = 0; i < size; i++) {
        if ((set & ~sets[i]) != 0) {
          sets[kept] = sets[i];
          kept++;
        }
      }
      size = kept;
      if (size < MOST_SETS) {
        sets[size] = set;
        size++;
      }
    }

    void solve() {
      search(0, 0, 0, 0);
    }

    private void search(int chosen, int barred, int cost, int words) {
      int open = hardest(chosen, barred);
      if (open == NONE) {
        keepIfBetter(chosen, cost, words);
        return;
      }
      if (words >= WORDS || cost > bestPrice || (cost == bestPrice && words >= bestWords)) {
        return;
      }
      int options = sets[open] & ~barred;
      int done = barred;
      for (int word = 0; word < WORDS; word++) {
        if (hasBit(options, word)) {
          search(chosen | 1 << word, done, cost + price[word], words + 1);
          // All choices with this word have been gone through.
          done |= 1 << word;
        }
      }
    }

    /** Of the sets without a chosen word that with the fewest ways to mend it. */
    private int hardest(int chosen, int barred) {
      int hardest = NONE;
      int fewest = WORDS + 1;
      for (int i = 0; i < size; i++) {
        int options = Integer.bitCount(sets[i] & ~barred);
        if ((sets[i] & chosen) == 0 && options < fewest) {
          hardest = i;
          fewest = options;
        }
      }
      return hardest;
    }

    private void keepIfBetter(int chosen, int cost, int words) {
      boolean better = cost < bestPrice;
      if (cost == bestPrice) {
        better = words < bestWords || (words == bestWords && chosen < best);
      }
      if (better) {
        best = chosen;
        bestPrice = cost;
        bestWords = words;
      }
    }
  }
}
