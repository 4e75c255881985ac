import java.util.NoSuchElementException;

/** The calls of the face by their names, for tests that tell them as texts; a boolean counts 1 or 0. */
final class Calls {
  /** Stands for a NoSuchElementException; no call answers it. */
  static final int LOST = Integer.MIN_VALUE;

  private Calls() { }

  static int answer(RaffleArmy x, String name, int a, int b, int c) {
    switch (name) {
      case "army": return x.army();
      case "war": return x.war();
      case "post": return x.post(a, b);
      case "man": return x.man(a, b);
      case "skill": return x.skill(a, b);
      case "ours": return x.ours();
      case "draw": return x.draw(a) ? 1 : 0;
      case "sell": return x.sell(a, b, c) ? 1 : 0;
      case "order": return x.order(a) ? 1 : 0;
      case "weeks": return x.weeks(a);
      case "undo": return x.undo() ? 1 : 0;
      case "judged": return x.judged(a);
      case "first": return x.first();
      case "best": return x.best(a);
      case "mean": return x.mean();
      case "loss": return x.loss();
      default: return reckoned(x, name, a, b, c);
    }
  }

  private static int reckoned(RaffleArmy x, String name, int a, int b, int c) {
    switch (name) {
      case "plan": return x.plan(a, b);
      case "swaps": return x.swaps(a);
      case "leave": return x.leave();
      case "pool": return x.pool(a);
      case "share": return x.share(a, b);
      case "tell": return x.tell(a, b) ? 1 : 0;
      case "fair": return x.fair(a, b);
      case "more": return x.more(a, b, c);
      case "see": return x.see(a) ? 1 : 0;
      case "orders": return x.orders(a);
      case "putOff": return x.putOff(a);
      case "rests": try { return x.rests(a, b, c); } catch (NoSuchElementException e) { return LOST; }
      case "years": return x.years(a, b, c);
      case "mark": return x.mark(a, b != 0) ? 1 : 0;
      case "count": return x.count(a);
      default: throw new IllegalArgumentException("no call " + name);
    }
  }
}
