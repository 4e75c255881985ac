/** Promises 27 to 33 and their terms in part ==== 3: SEEN, ORDERS, PUT OFF, RESTS, DRAWS, YEARS, MARKS and count at their bounds. */
final class BoundaryFronts {
  private final Bench b;

  BoundaryFronts(Bench b) { this.b = b; }

  void all() {
    see();
    seen();
    orders();
    rowsOfOrders();
    putOff();
    puttingOff();
    rests();
    games();
    drawsBelow();
    years();
    yearsByDraws();
    mark();
    marks();
    count();
    none();
  }

  private void see() {
    b.holds(27, "SEEN: true; false: others (0 to the cells), 5 are SEEN.");
    b.refused("see(-1)=no see(11)=no see(MIN)=no see(MAX)=no");
    b.due("see(0)=yes see(10)=yes count(8)=2");
    Samples.busyWithTape(b);
    b.refused("see(-1)=no see(9)=no see(MIN)=no see(MAX)=no");
    b.due("see(0)=yes see(8)=yes count(8)=4 see(8)=yes count(8)=5");
    b.refused("see(0)=no see(4)=no see(8)=no see(-1)=no see(9)=no");
    b.fresh("front 4 at 1;");
    b.refused("see(5)=no");
    b.due("see(4)=yes");
    b.fresh("front 40 at 1;");
    b.refused("see(41)=no");
    b.due("see(40)=yes");
  }

  private void seen() {
    b.holds(Document.TERMS, "SEEN: where the front was behind the next week, the one behind that, and so on (5 at most), from now on,"
        + " all posts as now, quarters aside (where it is 0 or the cells it stays).");
    b.fresh("front 40 at 20; goes what;");
    for (int i = 1; i <= 5; i++) b.due("see(" + (20 + i) + ")=yes count(8)=" + i + " orders(none)=1 orders(" + (i - 1) + ")=1");
    b.refused("see(26)=no");
    // where it is 0 or the cells it stays, by any order
    b.fresh("front 4 at 1; goes (what = 1) * 6 - 3;");
    b.due("see(0)=yes orders(none)=2 see(0)=yes orders(none)=6 see(0)=yes see(0)=yes see(0)=yes orders(none)=162");
    b.fresh("front 4 at 1; goes (what = 1) * 6 - 3;");
    b.due("see(4)=yes orders(none)=1 see(4)=yes orders(none)=3 see(4)=yes see(4)=yes see(4)=yes orders(none)=81 orders(0)=1 orders(1)=0 orders(4)=0");
    b.fresh("front 4 at 1; goes (what = 1) * 6 - 3;");
    b.due("weeks(1)=1 count(3)=0 orders(none)=1");
    for (int i = 1; i <= 5; i++) b.due("see(0)=yes orders(none)=" + (int) Math.pow(3, i));
    b.due("orders(0)=0 orders(4)=0");
    b.fresh("front 4 at 1; goes (what = 1) * 6 - 3;");
    b.due("order(1)=yes weeks(1)=1 count(3)=4");
    for (int i = 1; i <= 5; i++) b.due("see(4)=yes orders(none)=" + (int) Math.pow(3, i));
    b.fresh("front 4 at 1; goes (what = 1) * 6 - 3;");
    b.due("weeks(1)=1 see(1)=yes orders(none)=0 orders(0)=other");
    // quarters aside: over now, and over behind each week
    b.fresh("quarter 1; front 40 at 20; goes what;");
    b.due("weeks(1)=1 count(12)=1 see(20)=yes see(22)=yes see(23)=yes orders(none)=1 orders(0)=0 orders(1)=2 orders(2)=1");
    // all posts as now
    b.fresh(Samples.posts(1) + Samples.men(2) + "front 40 at 20; goes ours;");
    b.due("see(21)=yes see(22)=yes orders(none)=9 sell(0,1,0)=yes orders(none)=0 undo()=yes orders(none)=9");
  }

  private void orders() {
    b.holds(28, "ORDERS, what NONE: how many rows; i: the i-th order of the first one; -2: others, no row (but NONE).");
    // nothing is SEEN: one row, of no orders
    b.refused("orders(none)=1 orders(0)=other orders(1)=other orders(-2)=other orders(MIN)=other orders(MAX)=other");
    b.fresh("front 40 at 20; goes what;");
    b.due("see(20)=yes");
    b.refused("orders(none)=1 orders(0)=0 orders(1)=other orders(-2)=other orders(5)=other");
    b.due("see(22)=yes see(23)=yes see(23)=yes see(25)=yes");
    b.refused("orders(none)=1 orders(0)=0 orders(1)=2 orders(2)=1 orders(3)=0 orders(4)=2 orders(5)=other orders(-2)=other orders(MIN)=other orders(MAX)=other");
    b.fresh("front 40 at 20; goes what;");
    b.due("see(23)=yes");
    b.refused("orders(none)=0 orders(0)=other orders(1)=other orders(-2)=other");
    b.due("see(23)=yes orders(none)=0 orders(0)=other orders(1)=other");
    Samples.busyWithTape(b);
    b.refused("orders(-2)=other orders(2)=other orders(5)=other orders(MIN)=other orders(MAX)=other");
  }

  private void rowsOfOrders() {
    b.holds(Document.TERMS, "ORDERS by which it was so: how many rows of orders; the first one (hold, push, yield).");
    b.fresh("goes 0;");
    for (int i = 1; i <= 5; i++) b.due("see(5)=yes orders(none)=" + (int) Math.pow(3, i) + " orders(" + (i - 1) + ")=0");
    b.fresh("front 40 at 20; goes what = 0;");
    b.due("see(20)=yes see(20)=yes see(21)=yes orders(none)=4 orders(0)=1 orders(1)=1 orders(2)=0");
    b.fresh("front 40 at 20; goes 0 - (what = 2);");
    b.due("see(19)=yes see(19)=yes see(18)=yes orders(none)=2 orders(0)=2 orders(1)=0 orders(2)=2");
    // -3 to 3, 0 to the cells
    b.fresh("front 5 at 2; goes what * 9;");
    b.due("see(5)=yes orders(none)=2 orders(0)=1");
    b.fresh("front 5 at 2; goes 0 - what * 9;");
    b.due("see(0)=yes orders(none)=2 orders(0)=1");
    b.fresh("front 40 at 20; goes 4;");
    b.due("see(24)=yes orders(none)=0");
    // a row that is lost on its way does not come again
    b.fresh("front 40 at 20; goes what;");
    b.due("see(21)=yes see(20)=yes see(21)=yes orders(none)=0 orders(0)=other");
  }

  private void putOff() {
    b.holds(29, "PUT OFF, what 0: weeks (NONE: it need not be 0 in 60), 1: the first order (NONE: it is 0 or the cells now); -2: others.");
    b.refused("putOff(0)=5 putOff(1)=0 putOff(-1)=other putOff(2)=other putOff(-2)=other putOff(MIN)=other putOff(MAX)=other");
    Samples.busyWithTape(b);
    b.refused("putOff(0)=none putOff(1)=0 putOff(-1)=other putOff(2)=other putOff(MIN)=other putOff(MAX)=other");
    b.fresh("front 4 at 1; goes (what = 1) * 6 - 3;");
    b.due("weeks(1)=1 count(3)=0");
    b.refused("putOff(0)=0 putOff(1)=none putOff(-1)=other putOff(2)=other");
    b.due("undo()=yes order(1)=yes weeks(1)=1 count(3)=4");
    b.refused("putOff(0)=none putOff(1)=none putOff(-1)=other putOff(2)=other");
  }

  private void puttingOff() {
    b.holds(Document.TERMS, "PUT OFF: the most weeks, from now, posts as now, quarters aside, by orders week by week, till the front is 0"
        + " (60 at most; the cells end it, too, and not so); the first order by it (of equal ones the first).");
    b.fresh("front 40 at 39;");
    b.due("putOff(0)=39 putOff(1)=0 weeks(1)=1 putOff(0)=38");
    b.fresh("front 4 at 1;");
    b.due("putOff(0)=1 putOff(1)=0");
    // by 3 a week: 1 to 3 take one week, 4 to 6 two, 39 thirteen
    int[] fronts = {1, 3, 4, 6, 7, 39};
    int[] weeks = {1, 1, 2, 2, 3, 13};
    for (int i = 0; i < fronts.length; i++) {
      b.fresh("front 40 at " + fronts[i] + "; goes 0 - 3;");
      b.due("putOff(0)=" + weeks[i] + " putOff(1)=0");
    }
    // hold loses 3, push 2: of equal ones the first, else the slower
    int[] slow = {1, 1, 2, 2, 3, 3, 4, 4};
    int[] order = {0, 0, 0, 0, 0, 0, 0, 0};
    for (int at = 1; at <= 8; at++) {
      int byHold = at <= 3 ? 1 : 1 + slow[at - 4];
      order[at - 1] = byHold == slow[at - 1] ? 0 : 1;
      b.fresh("front 40 at " + at + "; goes (what = 1) - 3;");
      b.due("putOff(0)=" + slow[at - 1] + " putOff(1)=" + order[at - 1]);
    }
    b.fresh("front 40 at 39; goes what - 3;");
    b.due("putOff(0)=39 putOff(1)=2");
    b.due("putOff(0)=39 putOff(1)=2 putOff(0)=39");
    b.fresh("front 40 at 39; goes 0 - 1 - what;");
    b.due("putOff(0)=39 putOff(1)=0 putOff(0)=39");
    b.fresh("front 40 at 39; goes 0 - 3 + 2 * (what = 1);");
    b.due("putOff(0)=39 putOff(1)=1");
    // what ORDERS told ahead is no matter, nor the other way round
    b.fresh("front 40 at 39; goes 0 - 3 + what;");
    b.due("see(38)=yes see(37)=yes see(36)=yes see(35)=yes see(34)=yes orders(0)=2 orders(4)=2 putOff(0)=39 putOff(1)=2 orders(0)=2 orders(4)=2 orders(none)=1");
    // it need not be: by none, by hold alone, by yield alone; next to 0 the first that is not lost at once
    b.fresh("front 4 at 1; goes 0;");
    b.due("putOff(0)=none putOff(1)=0");
    b.fresh("front 4 at 1; goes 0 - what;");
    b.due("putOff(0)=none putOff(1)=0");
    b.fresh("front 4 at 1; goes (what = 2) - 1;");
    b.due("putOff(0)=none putOff(1)=2");
    b.fresh("front 4 at 2; goes (what = 2) - 1;");
    b.due("putOff(0)=none putOff(1)=0");
    // the cells end it, and not so
    for (int at = 1; at <= 3; at++) {
      b.fresh("front 4 at " + at + "; goes (what = 1) * 6 - 3;");
      b.due("putOff(0)=none putOff(1)=1");
    }
    // the last of 40 cells by hold, or by push, against a week lost
    b.fresh("front 40 at 39; goes (what = 0) * 3 - 1;");
    b.due("putOff(0)=none putOff(1)=0");
    b.fresh("front 40 at 1; goes (what = 1) * 4 - 1;");
    b.due("putOff(0)=none putOff(1)=1");
    // quarters aside; posts as now
    b.fresh("quarter 1; front 40 at 39;");
    b.due("weeks(1)=1 count(12)=1 putOff(0)=38 putOff(1)=0");
    b.fresh(Samples.posts(1) + Samples.men(2) + "goes ours - 2;");
    b.due("putOff(0)=5 sell(0,1,0)=yes putOff(0)=none undo()=yes putOff(0)=5");
    // the order of now is no matter
    b.due("order(2)=yes putOff(0)=5 putOff(1)=0");
  }

  private void rests() {
    b.holds(30, "RESTS by strengths (0 to 999) of both, what NONE: how many; i: our order * 2 + theirs (0 hold, 1 push; the least first)."
        + " NoSuchElementException: others, none such.");
    Samples.busyWithTape(b);
    b.refused("rests(0,0,none)=4 rests(0,0,0)=0 rests(0,0,1)=1 rests(0,0,2)=2 rests(0,0,3)=3 rests(0,0,4)=lost");
    b.refused("rests(999,999,none)=4 rests(999,999,3)=3 rests(0,999,none)=2 rests(0,999,0)=1 rests(0,999,1)=3 rests(0,999,2)=lost");
    b.refused("rests(999,0,none)=2 rests(999,0,0)=2 rests(999,0,1)=3 rests(999,0,2)=lost");
    b.refused("rests(-1,0,none)=lost rests(1000,0,none)=lost rests(0,-1,none)=lost rests(0,1000,none)=lost rests(-1,0,0)=lost rests(0,1000,0)=lost");
    b.refused("rests(MIN,0,none)=lost rests(MAX,0,none)=lost rests(0,MIN,none)=lost rests(0,MAX,none)=lost");
    b.refused("rests(0,0,-2)=lost rests(0,0,MIN)=lost rests(0,0,MAX)=lost rests(5,5,4)=lost rests(8,5,1)=lost rests(8,5,0)=2");
    b.fresh();
    b.refused("rests(0,0,none)=4 rests(0,0,4)=lost rests(-1,0,none)=lost rests(0,1000,3)=lost");
  }

  private void games() {
    b.holds(Document.TERMS, "GAMES: both sides order hold or push for a week; they are as strong as told; the front goes by ours by the E of goes with our order,"
        + " less what theirs goes by it, told by them (theirs as ours, ours as against): RESTS: orders of both by which neither goes further alone"
        + " (we on, they back).");
    // without goes, by strengths that are as much, one more, twice as much, and more than that
    b.due("rests(7,7,none)=4 rests(8,7,none)=1 rests(8,7,0)=2 rests(7,8,none)=1 rests(7,8,0)=1 rests(1,2,none)=1 rests(1,2,0)=1");
    b.due("rests(1,3,none)=2 rests(1,3,0)=1 rests(1,3,1)=3 rests(3,1,none)=2 rests(3,1,0)=2 rests(3,1,1)=3 rests(0,1,none)=2 rests(1,0,none)=2");
    b.fresh("goes what;");
    b.due("rests(0,0,none)=1 rests(0,0,0)=3 rests(0,999,0)=3");
    b.fresh("goes 0 - what;");
    b.due("rests(0,0,none)=1 rests(0,0,0)=0 rests(999,0,0)=0");
    // yield is no order here
    b.fresh("goes (what = 2) * 3;");
    b.due("rests(5,5,none)=4");
    b.fresh("goes (what = 1) + (what = 2) * 3;");
    b.due("rests(5,5,none)=1 rests(5,5,0)=3");
    // theirs as ours, ours as against
    b.fresh("goes (ours < against) * what;");
    b.due("rests(5,6,none)=2 rests(5,6,0)=2 rests(5,6,1)=3 rests(6,5,none)=2 rests(6,5,0)=1 rests(6,5,1)=3 rests(5,5,none)=4");
    // they are as strong as told here, not as in the ARMY; where the front is is no matter
    b.fresh(Samples.strong(9) + "theirs 999; front 4 at 1;");
    b.due("rests(5,4,none)=1 rests(5,4,0)=2 order(2)=yes weeks(1)=1 count(3)=0 rests(5,4,none)=1 rests(5,4,0)=2");
  }

  private void drawsBelow() {
    b.holds(Document.TERMS, "A DRAW below m: g becomes (g * 1103515245 + 12345) modulo 2147483648 (g is the SEED at first); it is g / 65536, cut, modulo m.");
    // below 2 to 6, by SEEDS from end to end
    for (int men = 2; men <= 6; men++) {
      b.fresh(Samples.posts(1) + Samples.men(men));
      for (int seed = men; seed <= 9999; seed += 97) b.due("draw(" + seed + ")=yes post(0,3)=" + new Lots(seed).row(men)[0]);
    }
    // by hand: g is 12345, 0 of 2; 1103527590 of SEED 1, 16838, 0 of 2; 2207042835 less 2147483648 of 2, 908, 0 of 2; of 3 17747, 1
    b.fresh(Samples.posts(2) + Samples.men(2));
    b.due("draw(0)=yes post(0,3)=1 draw(1)=yes post(0,3)=1 draw(2)=yes post(0,3)=1 draw(3)=yes post(0,3)=0");
    // the same SEED tells the same, and nothing is left of the one ahead
    b.due("draw(3)=yes draw(0)=yes post(0,3)=1 years(5,40,0)=0 draw(0)=yes post(0,3)=1");
  }

  private void years() {
    b.holds(31, "YEARS by a SEED (0 to 9999), what 0: the front, 1: weeks, 2: quarters; NONE: others.");
    b.refused("years(0,1,2)=0 years(-1,1,0)=none years(10000,1,0)=none years(0,0,0)=none years(0,41,0)=none years(0,1,-1)=none years(0,1,3)=none");
    Samples.busyWithTape(b);
    for (int what = -1; what <= 3; what++) {
      b.refused("years(-1,1," + what + ")=none years(10000,1," + what + ")=none years(0,0," + what + ")=none years(0,41," + what + ")=none years(0,-1," + what + ")=none");
    }
    b.refused("years(0,1,-1)=none years(0,1,3)=none years(9999,40,-1)=none years(9999,40,3)=none years(0,1,MIN)=none years(0,1,MAX)=none");
    b.refused("years(MIN,1,0)=none years(MAX,1,0)=none years(0,MIN,0)=none years(0,MAX,0)=none");
    b.fresh("goes 0; quarter 13;");
    b.refused("years(0,1,0)=5 years(9999,1,0)=5 years(0,1,1)=13 years(0,40,1)=520 years(9999,40,1)=520 years(0,40,2)=0");
  }

  /** What YEARS come to if hold loses 1, push 0, yield wins 1, by POSTS that weigh 1 to 6 and MEN of courage 1 to 6. */
  private static int[] simulated(int seed, int quarters, int weeks, int heed) {
    int front = 20, passed = 0, unheeded = 0;
    Lots lots = new Lots(seed);
    for (int quarter = 0; quarter < quarters; quarter++) {
      if (lots.row(6)[0] + 1 < heed) unheeded++;
      int order = lots.below(3);
      for (int week = 0; week < weeks && front > 0 && front < 40; week++) {
        front += order - 1;
        passed++;
      }
    }
    return new int[] {front, passed, unheeded};
  }

  private void yearsByDraws() {
    b.holds(Document.TERMS, "YEARS by a SEED of so many quarters (1 to 40), from now on (all is as ahead then): each a DRAW as by hand (its DRAWS go on),"
        + " then a DRAW below 3 tells the order, then the quarter's weeks, as long as the front is neither 0 nor the cells: where it is at last;"
        + " weeks that passed; quarters in which the first POST's MAN had no SKILL of heed.");
    for (int weeks : new int[] {1, 2, 13}) {
      for (int seed : new int[] {0, 1, 77, 9998, 9999}) {
        b.fresh(Samples.posts(6) + Samples.men(6) + "front 40 at 20; heed 4; goes what - 1; quarter " + weeks + ";");
        for (int quarters : new int[] {1, 2, 3, 39, 40}) {
          int[] due = simulated(seed, quarters, weeks, 4);
          for (int what = 0; what < 3; what++) b.due("years(" + seed + "," + quarters + "," + what + ")=" + due[what]);
        }
      }
    }
    // skill of heed, one less, and one more
    for (int heed = 2; heed <= 4; heed++) {
      b.fresh(Samples.strong(3) + "heed " + heed + ";");
      b.due("years(0,1,2)=" + (heed > 3 ? 1 : 0) + " years(0,40,2)=" + (heed > 3 ? 40 : 0));
    }
    b.fresh(Samples.strong(0) + "heed 0;");
    b.due("years(0,40,2)=0");
    // no POST, and none who has it
    b.fresh(Samples.men(6) + "heed 99;");
    b.due("years(0,40,2)=0");
    b.fresh(Samples.posts(6) + "heed 99;");
    b.due("years(0,40,2)=0");
    // it ends within a quarter, and stays there
    b.fresh("front 4 at 3; goes 0 - 1;");
    b.due("years(0,1,0)=0 years(0,1,1)=3 years(0,40,0)=0 years(0,40,1)=3");
    b.fresh("front 4 at 1; goes 1;");
    b.due("years(0,1,0)=4 years(0,1,1)=3 years(0,40,0)=4 years(0,40,1)=3");
    b.due("weeks(13)=3 years(0,40,0)=4 years(0,40,1)=0");
    b.fresh("front 4 at 1; goes 0 - 1;");
    b.due("weeks(13)=1 years(0,40,0)=0 years(0,40,1)=0");
    // from a quarter that is over: a DRAW comes first
    b.fresh("quarter 4; goes 0;");
    b.due("weeks(13)=4 count(12)=1 years(0,1,1)=4 years(0,40,1)=160 count(12)=1 weeks(1)=none");
    // all is as ahead then
    Samples.busyWithTape(b);
    b.refused("years(0,4,0)=6 years(0,4,1)=8 years(0,4,2)=1 years(0,40,0)=0 years(0,40,1)=16 years(0,40,2)=13");
  }

  private void mark() {
    b.holds(32, "A MARK is laid (back: gone back to): true; false: none such, nothing is on it (back).");
    b.refused("mark(0,back)=no mark(1,back)=no mark(2,back)=no mark(3,back)=no");
    b.refused("mark(-1,lay)=no mark(4,lay)=no mark(-1,back)=no mark(4,back)=no");
    b.refused("mark(MIN,lay)=no mark(MAX,lay)=no mark(MIN,back)=no mark(MAX,back)=no mark(32,lay)=no mark(-32,lay)=no");
    Samples.busyWithTape(b);
    b.refused("mark(0,back)=no mark(2,back)=no mark(-1,back)=no mark(4,back)=no mark(-1,lay)=no mark(4,lay)=no");
    // a bit's number wraps at 32: 33 and 35 are not 1 and 3
    b.refused("mark(32,back)=no mark(33,back)=no mark(35,back)=no mark(-31,back)=no mark(-29,back)=no mark(33,lay)=no mark(MIN,back)=no mark(MAX,back)=no");
    b.due("mark(0,lay)=yes mark(1,lay)=yes mark(2,lay)=yes mark(3,lay)=yes mark(0,back)=yes mark(1,back)=yes mark(2,back)=yes mark(3,back)=yes");
    b.due("mark(3,back)=yes mark(3,back)=yes");
  }

  private void marks() {
    b.holds(Document.TERMS, "MARKS 0 to 3 hold who has what, coins, the order, the front, the week, what is SEEN, TOLD (nothing can be undone when one is gone back to).");
    b.fresh(Samples.ARMY);
    b.due("mark(0,lay)=yes draw(3)=yes see(3)=yes tell(0,1)=yes mark(1,lay)=yes sell(0,3,999)=yes order(1)=yes weeks(1)=1 see(4)=yes tell(3,2)=yes mark(2,lay)=yes");
    b.due("order(2)=yes weeks(1)=1 draw(0)=yes see(0)=yes tell(1,1)=yes mark(3,lay)=yes count(10)=7");
    b.due("mark(0,back)=yes count(3)=3 count(4)=0 count(5)=0 count(8)=0 count(9)=0 count(10)=0 post(0,3)=0 post(1,3)=1 post(2,3)=2 man(0,2)=7 man(3,2)=999");
    b.refused("undo()=no");
    b.due("mark(1,back)=yes count(3)=3 count(4)=0 count(5)=0 count(8)=1 count(9)=1 count(10)=0 post(0,3)=2 post(1,3)=1 post(2,3)=0 man(0,2)=7 man(3,2)=999 fair(0,3)=250000");
    b.due("mark(2,back)=yes count(3)=4 count(4)=1 count(5)=1 count(8)=2 count(9)=2 count(10)=0 post(2,3)=3 man(0,3)=none man(0,2)=1006 man(3,2)=0 fair(3,1)=750000");
    b.due("mark(3,back)=yes count(3)=3 count(4)=2 count(5)=2 count(8)=3 count(9)=3 count(10)=0 post(0,3)=1 post(1,3)=2 post(2,3)=3 count(12)=0 undo()=no");
    // laying one leaves all, and takes nothing from what can be undone
    b.due("order(1)=yes mark(0,lay)=yes count(10)=1 undo()=yes count(5)=2");
    // one laid anew holds the new; what is done behind it does not reach it
    b.due("mark(0,back)=yes count(5)=1 order(0)=yes mark(0,lay)=yes order(2)=yes sell(1,2,0)=yes mark(0,back)=yes count(5)=0 post(0,3)=1 undo()=no");
    // five SEEN and eight TOLD are held, and come back
    b.fresh(Samples.ARMY);
    b.due("mark(0,lay)=yes");
    for (int i = 0; i < 5; i++) b.due("see(3)=yes");
    for (int i = 0; i < 8; i++) b.due("tell(0,1)=yes");
    // hold and none else stays at 3: 1 row
    b.due("mark(1,lay)=yes mark(0,back)=yes count(8)=0 count(9)=0 fair(0,3)=none see(0)=yes tell(1,0)=yes mark(1,back)=yes count(8)=5 count(9)=8");
    b.due("fair(0,3)=15 fair(1,1)=none orders(none)=1 see(3)=no tell(0,0)=no");
    // the ARMY, the WAR and the TAPE are not held
    b.war("draw 1; draw 2;");
    b.feed("heed");
    b.due("mark(1,back)=yes count(7)=2 count(11)=4");
    // sixteen that can be undone are gone with a MARK gone back to
    b.fresh();
    for (int i = 1; i <= 16; i++) b.due("order(" + i % 3 + ")=yes");
    b.due("mark(2,lay)=yes count(10)=16 mark(2,back)=yes count(10)=0 count(5)=1 undo()=no order(0)=yes undo()=yes count(5)=1 undo()=no");
  }

  private void count() {
    b.holds(33, "What 0: POSTS, 1: MEN, 2: cells, 3: where the front is, 4: weeks passed, 5: the order, 6: coins of all, 7: lines of the WAR,"
        + " 8: SEEN, 9: TOLD, 10: what can be undone, 11: signs on the TAPE, 12: 1 the quarter is over. NONE for another what.");
    b.refused("count(-1)=none count(13)=none count(-2)=none count(MIN)=none count(MAX)=none");
    Samples.busyWithTape(b);
    b.refused("count(0)=3 count(1)=4 count(2)=8 count(3)=4 count(4)=1 count(5)=2 count(6)=1009 count(7)=4 count(8)=2 count(9)=2 count(10)=4 count(11)=13 count(12)=0");
    b.refused("count(-1)=none count(13)=none count(14)=none count(32)=none count(MIN)=none count(MAX)=none");
    // the least and the greatest of each
    b.fresh(Samples.posts(6) + "man a brave 1 wit 1 coins 999; man b brave 1 wit 1 coins 999; man c brave 1 wit 1 coins 999; man d brave 1 wit 1 coins 999;"
        + "man e brave 1 wit 1 coins 999; man f brave 1 wit 1 coins 999; front 40 at 39; goes 1; quarter 1;");
    b.war("draw 1;".repeat(24));
    for (int i = 0; i < 16; i++) b.due("draw(1)=yes");
    for (int i = 0; i < 5; i++) b.due("see(1)=yes");
    for (int i = 0; i < 8; i++) b.due("tell(1,1)=yes");
    b.due("weeks(1)=1 sell(0,1,999)=yes sell(1,2,999)=yes");
    b.feed(" ".repeat(1001));
    b.due("count(0)=6 count(1)=6 count(2)=40 count(3)=40 count(4)=1 count(5)=0 count(6)=5994 count(7)=24 count(8)=5 count(9)=8 count(10)=16 count(11)=1000 count(12)=1");
  }

  private void none() {
    b.holds(Document.TERMS, "The constants: `NONE = -1`: None.");
    b.same("NONE", RaffleArmy.NONE, -1);
  }
}
