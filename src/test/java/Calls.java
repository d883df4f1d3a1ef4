/** Every call of the post by its name; a boolean is 1 or 0. */
final class Calls {
  static int of(NamelessPost p, String name, int[] a) {
    switch (name) {
      case "road": return p.road(a[0], a[1], a[2]);
      case "person": return p.person(a[0]);
      case "change": return p.change(a[0], a[1], a[2], a[3], a[4], a[5] != 0);
      case "knows": return p.knows(a[0], a[1], a[2] != 0) ? 1 : 0;
      case "worth": return p.worth(a[0], a[1]);
      case "feed": return p.feed(a[0], a[1], a[2], a[3], a[4]);
      case "end": return p.end(a[0]);
      case "cover": return p.cover();
      case "marks": return p.marks(a[0], a[1]);
      case "ties": return p.ties(a[0], a[1], a[2]);
      case "lives": return p.lives(a[0], a[1]);
      case "sees": return p.sees(a[0], a[1]);
      case "far": return p.far(a[0], a[1]);
      case "fits": return p.fits(a[0], a[1], a[2], a[3], a[4]);
      case "asked": return p.asked(a[0], a[1], a[2], a[3], a[4], a[5]);
      case "stale": return p.stale(a[0], a[1], a[2], a[3]);
      case "letter": return p.letter(a[0], a[1], a[2], a[3]);
      case "days": return p.days(a[0]);
      case "letters": return p.letters(a[0], a[1]);
      case "sure": return p.sure(a[0], a[1], a[2], a[3], a[4], a[5]);
      case "rings": return p.rings(a[0], a[1], a[2], a[3]);
      case "told": return p.told(a[0]);
      case "judged": return p.judged(a[0], a[1], a[2], a[3]);
      case "cheapest": return p.cheapest(a[0], a[1], a[2], a[3], a[4]);
      case "apart": return p.apart(a[0], a[1], a[2]);
      case "ends": return p.ends(a[0], a[1], a[2], a[3], a[4]);
      case "needs": return p.needs(a[0], a[1], a[2], a[3], a[4], a[5]);
      case "mends": return p.mends(a[0], a[1], a[2], a[3]);
      case "tellers": return p.tellers(a[0], a[1], a[2]);
      case "lied": return p.lied(a[0], a[1], a[2]);
      case "alone": return p.alone(a[0], a[1], a[2], a[3]);
      case "chain": return p.chain(a[0], a[1]);
      case "circle": return p.circle(a[0]);
      case "strangers": return p.strangers(a[0]);
      case "copies": return p.copies(a[0], a[1], a[2], a[3], a[4], a[5], a[6]);
      case "often": return p.often();
      case "count": return p.count(a[0]);
      case "image": return p.image(a[0]);
      case "back": return p.back(a[0]);
      default: throw new IllegalStateException(name);
    }
  }
}
