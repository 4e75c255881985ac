/** Promises 16 to 26 and their terms in part ==== 3: who had best have which POST, SWAPS, POOLS and fair draws at their bounds. */
final class BoundaryPosts {
  /** Six MEN, the most courage first, at POSTS that weigh 1 to 6. */
  private static final String AGAINST_THE_GRAIN = Samples.posts(6) + "man a brave 6 wit 0 coins 0; man b brave 5 wit 0 coins 0; man c brave 4 wit 0 coins 0;"
      + "man d brave 3 wit 0 coins 0; man e brave 2 wit 0 coins 0; man f brave 1 wit 0 coins 0;";
  private static final String NINES = "post a foot weighs 9; post b foot weighs 9; post c foot weighs 9; post d foot weighs 9; post e foot weighs 9; post f foot weighs 9;";
  private final Bench b;

  BoundaryPosts(Bench b) { this.b = b; }

  void all() {
    best();
    bestOfAllWays();
    mean();
    loss();
    plan();
    planning();
    likings();
    swaps();
    swapping();
    leave();
    pool();
    share();
    tell();
    fair();
    fairDraws();
    more();
  }

  private void best() {
    b.holds(16, "BEST, what NONE: OURS; post: its MAN (NONE: none); -2: others.");
    b.refused("best(none)=0 best(0)=other best(-2)=other best(1)=other best(MIN)=other best(MAX)=other");
    Samples.busyWithTape(b);
    // z at a 18, v at b half of 15, y at c 6
    b.refused("best(none)=31 best(0)=2 best(1)=3 best(2)=1");
    b.refused("best(3)=other best(-2)=other best(6)=other best(MIN)=other best(MAX)=other");
    b.fresh(Samples.posts(6) + Samples.men(6));
    b.due("best(5)=5 best(6)=other");
    b.fresh(Samples.posts(6));
    b.due("best(none)=0 best(0)=none best(5)=none best(6)=other");
    b.fresh(Samples.men(6));
    b.due("best(none)=0 best(0)=other");
  }

  private void bestOfAllWays() {
    b.holds(Document.TERMS, "BEST: of all ways to give POSTS to MEN (as many as can be, each one at most) the greatest OURS;"
        + " of equal ones the first (the MAN of each POST, by POSTS; none behind all).");
    b.fresh(Samples.posts(6) + Samples.men(6));
    b.due("best(none)=91 best(0)=0 best(1)=1 best(2)=2 best(3)=3 best(4)=4 best(5)=5");
    b.fresh(AGAINST_THE_GRAIN);
    b.due("ours()=56 best(none)=91 best(0)=5 best(1)=4 best(2)=3 best(3)=2 best(4)=1 best(5)=0");
    b.fresh(NINES + Samples.men(6) + "skill 99;");
    b.due("best(none)=5346 best(0)=0 best(1)=1 best(2)=2 best(3)=3 best(4)=4 best(5)=5");
    // as many as can be: the foe must be held, though 5 alone were more
    b.fresh("post a foot weighs 1; post b foe weighs 1; man m brave 3 wit 0 coins 0; man n brave 5 wit 0 coins 0;");
    b.due("best(none)=2 best(0)=1 best(1)=0");
    b.fresh("post a foe weighs 1; man m brave 3 wit 0 coins 0;");
    b.due("best(none)=0 best(0)=0");
    // fewer MEN than POSTS: any of these may be the ones that are held
    b.fresh("post a foe weighs 1; post b foot weighs 1; man m brave 5 wit 0 coins 0;");
    b.due("best(none)=5 best(0)=none best(1)=0");
    b.fresh(Samples.posts(6) + Samples.men(1));
    b.due("best(none)=6 best(0)=none best(4)=none best(5)=0");
    b.fresh(Samples.posts(6) + Samples.men(5));
    b.due("best(none)=70 best(0)=none best(1)=0 best(5)=4");
    // fewer POSTS than MEN
    b.fresh(Samples.posts(1) + Samples.men(6));
    b.due("best(none)=6 best(0)=5");
    // of equal ones the first, and none behind all
    b.fresh("post a foot weighs 1; post b foot weighs 1; man m brave 5 wit 0 coins 0;");
    b.due("best(none)=5 best(0)=0 best(1)=none");
    b.fresh(Samples.posts(3) + Samples.men(3) + "skill 0;");
    b.due("best(none)=0 best(0)=0 best(1)=1 best(2)=2");
    b.fresh(Samples.posts(3).replace("foot", "foe") + Samples.men(2));
    b.due("best(none)=0 best(0)=0 best(1)=1 best(2)=none");
    b.fresh("post a foot weighs 2; post b foot weighs 2; man m brave 1 wit 0 coins 0; man n brave 7 wit 0 coins 0; man o brave 7 wit 0 coins 0;");
    b.due("best(none)=28 best(0)=1 best(1)=2");
    // it is the same whoever has what now, and another with another ARMY
    b.due("draw(3)=yes sell(0,1,0)=yes best(none)=28 best(0)=1 best(1)=2");
    b.army(Samples.posts(1) + Samples.men(2));
    b.due("best(none)=2 best(0)=1 best(1)=other mean()=1500 loss()=500 plan(1,0)=4000");
    b.army("front 40 at 20; goes what;");
    b.due("best(none)=0 best(0)=other mean()=0 loss()=0 plan(1,0)=22000 plan(5,0)=30000");
    b.army(Samples.posts(2) + Samples.men(2) + "front 40 at 20; goes 0 - what;");
    b.due("best(none)=5 best(0)=0 best(1)=1 mean()=4500 loss()=500 plan(1,0)=20000 plan(5,0)=20000");
  }

  private void mean() {
    b.holds(17, "MEAN.");
    Samples.busyWithTape(b);
    // 410 in 24 ways
    b.refused("mean()=17083");
    b.holds(Document.TERMS, "MEAN of OURS over all ways to give so many, in thousandths, cut.");
    b.due("mean()=0");
    b.fresh(Samples.posts(6));
    b.due("mean()=0");
    b.fresh(Samples.men(6));
    b.due("mean()=0");
    b.fresh(Samples.posts(1) + Samples.men(1));
    b.due("mean()=1000");
    b.fresh("post a foot weighs 1; post b foot weighs 1; post c foot weighs 2; man m brave 1 wit 0 coins 0;");
    b.due("mean()=1333");
    b.fresh("post a foot weighs 1; post b foot weighs 2; post c foot weighs 2; man m brave 1 wit 0 coins 0;");
    b.due("mean()=1666");
    b.fresh(Samples.posts(6) + Samples.men(6));
    b.due("mean()=73500 draw(5)=yes mean()=73500");
    b.fresh(Samples.posts(1) + Samples.men(6));
    b.due("mean()=3500");
    b.fresh(Samples.posts(6) + Samples.men(1));
    b.due("mean()=3500");
    b.fresh(NINES + Samples.men(6) + "skill 99;");
    b.due("mean()=5346000");
    // each way is 0 at least by itself: 2 and 0, not 2 and -2
    b.fresh("post a foot weighs 1; post b foe weighs 1; man m brave 3 wit 0 coins 0; man n brave 5 wit 0 coins 0;");
    b.due("mean()=1000");
  }

  private void loss() {
    b.holds(18, "LOSS.");
    Samples.busyWithTape(b);
    b.refused("loss()=13917");
    b.holds(Document.TERMS, "LOSS: BEST in thousandths less the MEAN.");
    b.due("loss()=0");
    b.fresh(Samples.posts(1) + Samples.men(1));
    b.due("loss()=0");
    b.fresh("post a foot weighs 1; post b foot weighs 1; post c foot weighs 2; man m brave 1 wit 0 coins 0;");
    b.due("loss()=667");
    b.fresh("post a foot weighs 1; post b foot weighs 2; post c foot weighs 2; man m brave 1 wit 0 coins 0;");
    b.due("loss()=334");
    b.fresh(Samples.posts(6) + Samples.men(6));
    b.due("loss()=17500 draw(5)=yes loss()=17500");
    b.fresh(NINES + Samples.men(6) + "skill 99;");
    b.due("loss()=0");
    // one MAN of 99 at a POST of 9, or at a foe
    b.fresh("post a foot weighs 9; post b foe weighs 9; man m brave 9 wit 0 coins 0; skill 99;");
    b.due("loss()=445500");
  }

  private void plan() {
    b.holds(19, "PLAN, what 0: thousandths, 1 + i: the i-th order; NONE: others.");
    b.refused("plan(1,0)=4000 plan(1,1)=0 plan(5,0)=0 plan(5,5)=0");
    b.fresh("front 40 at 20; goes what;");
    for (int weeks = 1; weeks <= 5; weeks++) {
      b.refused("plan(" + weeks + ",0)=" + (20 + 2 * weeks) * 1000);
      for (int what = 1; what <= weeks; what++) b.due("plan(" + weeks + "," + what + ")=2");
      b.refused("plan(" + weeks + "," + (weeks + 1) + ")=none plan(" + weeks + ",-1)=none plan(" + weeks + ",MIN)=none plan(" + weeks + ",MAX)=none");
    }
    Samples.busyWithTape(b);
    for (int what = -1; what <= 6; what++) b.refused("plan(0," + what + ")=none plan(6," + what + ")=none plan(-1," + what + ")=none");
    b.refused("plan(MIN,0)=none plan(MAX,0)=none plan(MAX,1)=none plan(MIN,MIN)=none plan(5,6)=none");
  }

  private void planning() {
    b.holds(Document.TERMS, "PLAN for so many weeks (1 to 5): orders, the same whoever draws what (all ways, one for all these weeks, quarters aside),"
        + " from where the front is now: by which it is furthest on the mean, in thousandths, cut; of equal ones the first row (hold, push, yield).");
    // at 0 and at the cells it stays, and all rows are equal
    b.fresh("front 4 at 1; goes (what = 0) * 6 - 3;");
    b.due("order(1)=yes weeks(1)=1 count(3)=0 plan(1,0)=0 plan(5,0)=0 plan(5,1)=0 plan(5,5)=0");
    b.due("undo()=yes order(0)=yes weeks(1)=1 count(3)=4 plan(1,0)=4000 plan(5,0)=4000 plan(5,1)=0 plan(5,5)=0");
    b.fresh("goes 0;");
    b.due("plan(5,0)=5000 plan(5,1)=0 plan(5,2)=0 plan(5,3)=0 plan(5,4)=0 plan(5,5)=0");
    // one push is enough: the first such row has it last
    b.fresh("front 4 at 3; goes what = 1;");
    b.due("plan(5,0)=4000 plan(5,1)=0 plan(5,2)=0 plan(5,3)=0 plan(5,4)=0 plan(5,5)=1 plan(1,1)=1");
    b.fresh("front 4 at 2; goes what = 1;");
    b.due("plan(5,0)=4000 plan(5,1)=0 plan(5,2)=0 plan(5,3)=0 plan(5,4)=1 plan(5,5)=1 plan(1,0)=3000");
    // no row does well: 0 at least
    b.fresh("front 4 at 3; goes 0 - 3;");
    b.due("plan(1,0)=0 plan(5,0)=0 plan(5,3)=0");
    // on the mean, cut: one, two of three go on by 1
    b.fresh(Samples.posts(1) + Samples.men(3) + "goes ours = 1;");
    b.due("plan(1,0)=5333 plan(2,0)=5666 plan(5,0)=6666");
    b.fresh(Samples.posts(1) + Samples.men(3) + "goes ours = 1 or ours = 2;");
    b.due("plan(1,0)=5666 plan(5,0)=8333");
    // one way for all weeks: 0 or 3, not 0, 1 and 3
    b.fresh(Samples.posts(1) + Samples.men(2) + "front 4 at 1; goes (ours = 2) * 2 - 1;");
    b.due("plan(2,0)=1500 plan(3,0)=2000 plan(5,0)=2000");
    // all ways of POSTS that are held, too: one MAN at one of six
    b.fresh(Samples.posts(6) + Samples.men(1) + "goes ours = 6;");
    b.due("plan(1,0)=5166 plan(5,0)=5833");
    // whoever has what now; from where the front is now; the quarter over or not
    b.fresh(Samples.posts(1) + Samples.men(2) + "quarter 1; front 20 at 10; goes (ours = 2) * 2 - 1 + (what = 1);");
    b.due("plan(1,0)=11000 plan(1,1)=1 weeks(1)=1 count(3)=9 count(12)=1 plan(1,0)=10000 plan(5,0)=14000 plan(5,5)=1");
    b.due("sell(0,1,0)=yes plan(1,0)=10000 order(2)=yes plan(1,0)=10000 draw(0)=yes weeks(1)=1 count(3)=10 plan(1,0)=11000");
    // the most and the least that it can go by, by all orders, and by some ways alone
    b.fresh("front 40 at 20; goes 3;");
    b.due("plan(1,0)=23000 plan(5,0)=35000 plan(5,1)=0");
    b.fresh("front 40 at 20; goes 0 - 3;");
    b.due("plan(1,0)=17000 plan(5,0)=5000 plan(5,1)=0");
    b.army("front 40 at 20; goes 0 - 3;");
    b.due("plan(1,0)=17000 plan(5,0)=5000 plan(5,1)=0");
    b.army("front 40 at 20; goes 3;");
    b.due("plan(1,0)=23000 plan(5,0)=35000 plan(5,1)=0");
    b.fresh(Samples.posts(1) + Samples.men(2) + "front 40 at 20; goes ours * 6 - 9;");
    b.due("plan(1,0)=20000 plan(5,0)=20000 plan(5,1)=0");
    // 720 ways, each the same
    b.fresh(Samples.posts(6) + Samples.men(6) + "front 40 at 20; goes what + 1; theirs 0;");
    b.due("plan(5,0)=35000 plan(5,1)=2 plan(5,5)=2");
  }

  private void likings() {
    b.holds(Document.TERMS, "A MAN likes a POST by the E of worth (all ints), of equal ones the least; none at all is below all.");
    String crossed = "post a foot weighs 1; post b foot weighs 2; man m brave 2 wit 0 coins 0; man n brave 1 wit 0 coins 0;";
    b.fresh(crossed + "worth courage = load;");
    b.due("swaps(0)=1 swaps(1)=0");
    // the least int there is, and one more
    b.fresh(crossed + "worth 256 * 256 * 256 * 128 + (courage = load);");
    b.due("swaps(0)=1 swaps(1)=0");
    // the greatest one: one more is the least
    b.fresh(crossed + "worth 256 * 256 * 256 * 128 - 1 + (courage = load);");
    b.due("swaps(0)=0 swaps(1)=1");
    b.fresh(crossed + "worth 0 - 9999 + (courage = load);");
    b.due("swaps(0)=1 swaps(1)=0");
    // 100 and 200 are not cut to 99
    b.fresh(crossed + "worth 100 + 100 * (courage = load);");
    b.due("swaps(0)=1 swaps(1)=0");
    // the least int against the greatest: no difference is taken that wraps
    b.fresh(crossed + "worth 256 * 256 * 256 * 128 - (courage = load);");
    b.due("swaps(0)=1 swaps(1)=0");
    b.fresh(crossed + "worth 0 - 1;");
    b.due("swaps(0)=0 swaps(1)=1 leave()=0");
    // of equal ones the least: n likes a as much as b, his own, and looks at a; m likes b
    b.fresh(crossed + "worth (courage = 2) * load;");
    b.due("swaps(0)=1 swaps(1)=0");
    b.fresh(crossed + "worth (courage = 1) * load;");
    b.due("swaps(0)=0 swaps(1)=1");
    // none is below all: one who likes none well keeps one, one who has none has none
    b.fresh("post a foot weighs 1; man m brave 2 wit 0 coins 0; man n brave 1 wit 0 coins 0; worth 256 * 256 * 256 * 128;");
    b.due("swaps(0)=0 swaps(1)=none leave()=0");
  }

  private void swaps() {
    b.holds(20, "SWAPS: the POST that a MAN has then (NONE: none); -2: others.");
    b.refused("swaps(0)=other swaps(-1)=other");
    Samples.busyWithTape(b);
    b.refused("swaps(-1)=other swaps(4)=other swaps(-2)=other swaps(6)=other swaps(MIN)=other swaps(MAX)=other");
    b.refused("swaps(0)=2 swaps(1)=1 swaps(2)=0 swaps(3)=none");
    // the last keeps the heaviest, then the one ahead of him the next, and at last the first his own
    b.fresh(Samples.posts(6) + Samples.men(6));
    b.due("swaps(0)=0 swaps(1)=1 swaps(2)=2 swaps(3)=3 swaps(4)=4 swaps(5)=5 swaps(6)=other");
    b.fresh(Samples.men(6));
    b.due("swaps(0)=none swaps(5)=none swaps(6)=other");
  }

  /** Six MEN of so much courage at POSTS that weigh 1 to 6: each likes the one that weighs as much, then the least. */
  private static String likes(int... courage) {
    StringBuilder men = new StringBuilder();
    for (int i = 0; i < courage.length; i++) men.append("man m").append((char) ('a' + i)).append(" brave ").append(courage[i]).append(" wit 0 coins 0;");
    return Samples.posts(6) + men + "worth courage = load;";
  }

  private void swapping() {
    b.holds(Document.TERMS, "SWAPS: each MAN who has one looks at who has the POST that he likes best of those still there"
        + " (his own may be it; POSTS not held aside); a ring of such looks changes POSTS among themselves and leaves, again and again: who has which at last.");
    b.fresh(likes(2, 3, 4, 5, 6, 1));
    b.due("swaps(0)=1 swaps(1)=2 swaps(2)=3 swaps(3)=4 swaps(4)=5 swaps(5)=0 leave()=63");
    b.fresh(likes(1, 2, 3, 4, 5, 6));
    b.due("swaps(0)=0 swaps(5)=5 leave()=0");
    b.fresh(likes(2, 1, 4, 3, 6, 5));
    b.due("swaps(0)=1 swaps(1)=0 swaps(2)=3 swaps(3)=2 swaps(4)=5 swaps(5)=4 leave()=63");
    // all look at the last, who keeps his; then all at the first, and so on: each his own
    b.fresh(likes(6, 6, 6, 6, 6, 6));
    b.due("swaps(0)=0 swaps(1)=1 swaps(2)=2 swaps(3)=3 swaps(4)=4 swaps(5)=5 leave()=0");
    // the last and the first change; those between look at what is gone, then at the least still there
    b.fresh(likes(6, 1, 1, 6, 6, 1));
    b.due("swaps(0)=5 swaps(5)=0 swaps(1)=1 swaps(2)=2 swaps(3)=3 swaps(4)=4 leave()=33");
    // a tail of looks that leads into a ring of two: behind it the last of the tail looks at its first, a ring of four
    b.fresh(likes(2, 3, 4, 5, 6, 5));
    b.due("swaps(4)=5 swaps(5)=4 swaps(0)=1 swaps(1)=2 swaps(2)=3 swaps(3)=0 leave()=63");
    // six, and only by the third round: a gives his for the second that he likes
    b.fresh("post a foot weighs 1; post b foot weighs 2; post c foot weighs 3; man m brave 1 wit 0 coins 0; man n brave 2 wit 0 coins 0; man o brave 3 wit 0 coins 0;"
        + "worth (courage = 1) * load + (courage = 2) * (4 - load) * 2 + (courage = 3) * (load = 3) * 9;");
    b.due("swaps(0)=1 swaps(1)=0 swaps(2)=2 leave()=3");
    // POSTS not held are aside: c is liked by all
    b.fresh("post a foot weighs 1; post b foot weighs 2; post c foot weighs 9; man m brave 1 wit 0 coins 0; man n brave 1 wit 0 coins 0;");
    b.due("swaps(0)=0 swaps(1)=1 leave()=0");
    b.fresh(Samples.posts(6) + Samples.men(1));
    b.due("swaps(0)=0");
    // by who has what now; one who has none stays out
    b.fresh("post a foot weighs 1; post b foot weighs 2; man m brave 1 wit 0 coins 0; man n brave 2 wit 0 coins 0; man o brave 1 wit 0 coins 0; worth courage = load;");
    b.due("leave()=0 sell(0,1,0)=yes swaps(0)=0 swaps(1)=1 swaps(2)=none leave()=3 sell(0,2,0)=yes swaps(0)=none swaps(1)=1 swaps(2)=0 leave()=6");
  }

  private void leave() {
    b.holds(21, "LEAVE, as bits.");
    b.refused("leave()=0");
    Samples.busyWithTape(b);
    b.refused("leave()=0");
    b.fresh(likes(2, 3, 4, 5, 6, 1));
    b.refused("leave()=63");
    b.holds(Document.TERMS, "LEAVE: MEN who would have another POST then than now.");
    b.fresh(Samples.men(6));
    b.due("leave()=0");
    b.fresh(Samples.posts(6));
    b.due("leave()=0");
    b.fresh(likes(2, 1, 3, 4, 5, 6));
    b.due("leave()=3 sell(0,1,0)=yes leave()=0");
    b.fresh(likes(1, 2, 3, 4, 6, 5));
    b.due("leave()=48");
    b.fresh(likes(6, 2, 3, 4, 5, 1));
    b.due("leave()=33");
    b.fresh(Samples.posts(1) + Samples.men(6));
    b.due("leave()=0 draw(0)=yes leave()=0");
  }

  private void pool() {
    b.holds(22, "POOL of some MEN (bits); NONE: others, one has none.");
    b.refused("pool(0)=none pool(1)=none pool(-1)=none");
    b.fresh(Samples.ARMY);
    b.refused("pool(1)=8 pool(2)=6 pool(4)=0 pool(3)=16 pool(5)=19 pool(6)=33 pool(7)=41");
    b.refused("pool(0)=none pool(8)=none pool(9)=none pool(15)=none pool(16)=none pool(17)=none pool(32)=none pool(64)=none");
    b.refused("pool(-1)=none pool(MIN)=none pool(MAX)=none pool(-8)=none");
    Samples.busyWithTape(b);
    b.refused("pool(0)=none pool(8)=none pool(15)=none pool(16)=none pool(-1)=none");
    b.fresh(Samples.posts(6) + Samples.men(6));
    b.due("pool(63)=91 pool(64)=none pool(127)=none pool(32)=36 pool(0)=none");
    b.holds(Document.TERMS, "POOL of some MEN who have POSTS: the most that SKILL times what they weigh can come to, all of them together,"
        + " if they give their POSTS out anew among themselves.");
    b.fresh(AGAINST_THE_GRAIN);
    b.due("pool(1)=6 pool(33)=37 pool(63)=91 pool(3)=17 pool(62)=70 pool(31)=70");
    b.fresh(NINES + Samples.men(6) + "skill 99;");
    b.due("pool(63)=5346 pool(1)=891");
    b.fresh(Samples.posts(6) + Samples.men(6) + "skill 0 - 5;");
    b.due("pool(63)=0 pool(1)=0");
    // mules and foes as much as others, and who does not OBEY, too
    b.fresh("post a foe weighs 3; post b mule weighs 3 under a; post c foot weighs 3 under b; man m brave 1 wit 0 coins 0; man n brave 1 wit 0 coins 0;"
        + "man o brave 1 wit 0 coins 0;");
    b.due("ours()=0 pool(1)=3 pool(2)=3 pool(4)=3 pool(7)=9");
    // their POSTS as they are now
    b.fresh(Samples.ARMY);
    b.due("sell(0,3,0)=yes pool(1)=none pool(8)=10 pool(9)=none draw(0)=yes pool(1)=none pool(2)=4 undo()=yes undo()=yes pool(8)=none pool(1)=8");
    b.fresh(Samples.men(2));
    b.due("pool(1)=none pool(2)=none pool(3)=none");
  }

  private void share() {
    b.holds(23, "SHARE; NONE: others, he is none of these.");
    b.refused("share(0,0)=none share(1,0)=none share(-1,0)=none");
    b.fresh(Samples.ARMY);
    b.refused("share(1,0)=8000 share(2,1)=6000 share(4,2)=0 share(7,0)=10166 share(7,1)=16166 share(7,2)=14666");
    b.refused("share(0,0)=none share(1,1)=none share(6,0)=none share(5,1)=none share(7,3)=none share(7,-1)=none share(7,4)=none");
    b.refused("share(8,3)=none share(15,0)=none share(15,3)=none share(9,0)=none share(16,4)=none share(16,0)=none share(17,0)=none");
    // a bit's number wraps at 32
    b.refused("share(7,32)=none share(7,33)=none share(7,-32)=none share(7,-31)=none share(7,64)=none share(7,MIN)=none share(7,MAX)=none");
    b.refused("share(-1,0)=none share(MIN,0)=none share(MAX,0)=none share(MIN,31)=none share(-1,-1)=none");
    Samples.busyWithTape(b);
    b.refused("share(0,0)=none share(8,3)=none share(1,1)=none share(7,4)=none share(7,32)=none");
    b.holds(Document.TERMS, "SHARE of one of a POOL, in thousandths, cut: the mean, over all orders in which these can come,"
        + " of what he adds to the POOL of those ahead of him.");
    b.fresh(AGAINST_THE_GRAIN);
    b.due("share(63,0)=17033 share(63,1)=14800 share(63,2)=13666 share(63,3)=13666 share(63,4)=14800 share(63,5)=17033");
    b.due("share(1,0)=6000 share(33,0)=18500 share(33,5)=18500");
    b.fresh(Samples.posts(6) + Samples.men(6));
    b.due("share(63,0)=1000 share(63,1)=4000 share(63,2)=9000 share(63,3)=16000 share(63,4)=25000 share(63,5)=36000");
    b.fresh(NINES + Samples.men(6) + "skill 99;");
    b.due("share(63,0)=891000 share(63,5)=891000");
    b.fresh(Samples.posts(6) + Samples.men(6) + "skill 0;");
    b.due("share(63,0)=0 share(1,0)=0");
  }

  private void tell() {
    b.holds(24, "TOLD: true; false: others, 8 are TOLD.");
    b.refused("tell(0,0)=no");
    Samples.busyWithTape(b);
    b.refused("tell(-1,0)=no tell(4,0)=no tell(0,-1)=no tell(0,3)=no tell(4,3)=no tell(-1,-1)=no");
    b.refused("tell(MIN,0)=no tell(MAX,0)=no tell(0,MIN)=no tell(0,MAX)=no");
    b.holds(Document.TERMS, "TOLD of tickets: that a MAN drew a POST (8 at most).");
    b.fresh(Samples.ARMY);
    for (int i = 0; i < 7; i++) b.due("tell(" + i % 4 + "," + i % 3 + ")=yes count(9)=" + (i + 1));
    b.refused("tell(4,0)=no");
    b.due("tell(3,2)=yes count(9)=8");
    b.refused("tell(0,0)=no tell(3,2)=no tell(1,1)=no tell(4,0)=no");
    // an ARMY, and a MARK of fewer, make room again
    b.due("mark(0,lay)=yes");
    b.army(Samples.ARMY);
    b.due("count(9)=0 tell(0,0)=yes mark(0,lay)=yes tell(0,0)=yes mark(0,back)=yes count(9)=1");
    for (int i = 1; i < 8; i++) b.due("tell(0,0)=yes");
    b.due("tell(0,0)=no mark(0,back)=yes tell(0,0)=yes count(9)=2");
    // the same may be told again, and one that no draw could bring
    b.fresh(Samples.posts(6) + Samples.men(1));
    b.due("tell(0,5)=yes tell(0,5)=yes count(9)=2 tell(0,6)=no tell(1,0)=no");
    b.fresh(Samples.posts(6));
    b.refused("tell(0,0)=no");
    b.fresh(Samples.men(6));
    b.refused("tell(0,0)=no");
  }

  private void fair() {
    b.holds(25, "FAIR of a MAN by what weighs no less than so much (1 to 9); NONE: others, nothing is TOLD of him.");
    b.refused("fair(0,1)=none");
    Samples.busyWithTape(b);
    // told: x drew b (3), v drew c (1); a and b weigh 2 or more, b 3, of four
    b.refused("fair(0,1)=750000 fair(0,2)=500000 fair(0,3)=250000 fair(0,4)=1000000 fair(0,9)=1000000 fair(3,1)=750000 fair(3,2)=1000000");
    b.refused("fair(0,0)=none fair(0,10)=none fair(0,-1)=none fair(0,MIN)=none fair(0,MAX)=none");
    b.refused("fair(1,1)=none fair(2,9)=none fair(-1,1)=none fair(4,1)=none fair(MIN,1)=none fair(MAX,1)=none fair(4,10)=none");
    b.due("tell(1,0)=yes fair(1,1)=750000");
  }

  private void fairDraws() {
    b.holds(Document.TERMS, "FAIR: the chance, in millionths, cut, that as many fair draws as are TOLD of a MAN bring him a POST that weighs no less than so much"
        + " as often as was TOLD, or more often (a fair draw brings it by as many of the first POSTS, as many as there are MEN, as weigh so, of the MEN).");
    b.fresh(Samples.posts(6) + Samples.men(6));
    b.due("tell(0,0)=yes tell(1,5)=yes fair(0,1)=1000000 fair(0,2)=1000000 fair(1,1)=1000000 fair(1,2)=833333 fair(1,6)=166666 fair(1,7)=1000000 fair(1,9)=1000000");
    // 1 of 36, and 11 of 36
    b.due("tell(1,5)=yes fair(1,6)=27777 tell(1,0)=yes fair(1,6)=74074");
    // all eight of one
    b.fresh(Samples.posts(6) + Samples.men(6));
    for (int i = 0; i < 8; i++) b.due("tell(2,5)=yes");
    b.due("fair(2,6)=0 fair(2,5)=152 fair(2,4)=3906 fair(2,3)=39018 fair(2,2)=232568 fair(2,1)=1000000 fair(2,7)=1000000 fair(1,6)=none");
    b.fresh(Samples.posts(6) + Samples.men(6));
    for (int i = 0; i < 8; i++) b.due("tell(5,0)=yes");
    b.due("fair(5,1)=1000000 fair(5,2)=1000000 fair(5,6)=1000000");
    b.fresh(Samples.posts(6) + Samples.men(6));
    for (int i = 0; i < 4; i++) b.due("tell(2,5)=yes tell(2,0)=yes");
    b.due("fair(2,6)=30656 fair(2,5)=258649 fair(2,4)=636718 fair(2,3)=912056 fair(2,2)=995391");
    // no more POSTS than MEN can be drawn, and no more MEN than POSTS draw one
    b.fresh(Samples.posts(6) + Samples.men(2));
    b.due("tell(0,1)=yes fair(0,2)=500000 fair(0,1)=1000000 fair(0,3)=1000000 tell(1,5)=yes fair(1,6)=0 fair(1,3)=0 fair(1,2)=500000");
    b.fresh(Samples.posts(2) + Samples.men(6));
    b.due("tell(0,0)=yes fair(0,1)=333333 tell(1,1)=yes fair(1,2)=166666");
    b.fresh(Samples.posts(1) + Samples.men(1));
    b.due("tell(0,0)=yes fair(0,1)=1000000 fair(0,2)=1000000");
    // who has what now is no matter
    b.due("draw(0)=yes order(1)=yes fair(0,1)=1000000");
  }

  private void more() {
    b.holds(26, "MORE; NONE: others, nothing is TOLD of him, not by 8.");
    b.refused("more(0,1,1)=none");
    Samples.busyWithTape(b);
    b.refused("more(0,3,0)=none more(0,3,-1)=none more(0,3,1000001)=none more(0,3,MIN)=none more(0,3,MAX)=none");
    b.refused("more(0,0,5)=none more(0,10,5)=none more(0,MIN,5)=none more(0,MAX,5)=none");
    b.refused("more(1,3,1000000)=none more(2,3,1000000)=none more(-1,3,5)=none more(4,3,5)=none more(MIN,3,5)=none more(MAX,3,5)=none");
    b.refused("more(0,3,1000000)=0 more(0,3,250001)=0 more(0,3,250000)=1");
    b.holds(Document.TERMS, "MORE: how many more draws, each of which brings it, it takes till that chance is below so many millionths (1 to 1,000,000), 8 at most.");
    b.fresh(Samples.posts(6) + Samples.men(6));
    b.due("tell(0,0)=yes");
    // by 0 to 8 more
    int[] chances = {1000000, 305555, 74074, 16203, 3343, 664, 128, 24, 4};
    for (int many = 1; many <= 8; many++) {
      b.due("more(0,6," + (chances[many] + 1) + ")=" + many + " more(0,6," + chances[many - 1] + ")=" + many);
    }
    b.due("more(0,6,5)=8 more(0,6,4)=none more(0,6,1)=none more(0,6,1000000)=1 more(0,6,1000001)=none more(0,6,0)=none");
    // always and never
    b.due("more(0,1,1000000)=none more(0,1,1)=none more(0,7,1000000)=1 more(0,7,1)=1 more(0,9,1)=1");
    b.due("tell(1,5)=yes more(1,6,166667)=0 more(1,6,166666)=1 more(1,6,1000000)=0 more(1,1,1000000)=none");
    // eight told and eight more: sixteen draws
    b.fresh(Samples.posts(6) + Samples.men(6));
    for (int i = 0; i < 8; i++) b.due("tell(3,0)=yes");
    b.due("more(3,2,1000000)=1 more(3,2,999999)=3 more(3,2,999811)=8 more(3,2,999812)=7 more(3,2,999634)=8 more(3,2,999633)=none");
    b.due("more(3,6,6603)=8 more(3,6,2149)=8 more(3,6,2148)=none more(3,4,598191)=8 more(3,4,598190)=none more(3,1,1000000)=none more(3,7,1)=1");
    b.fresh(Samples.posts(6) + Samples.men(6));
    for (int i = 0; i < 8; i++) b.due("tell(3,5)=yes");
    b.due("more(3,2,54088)=8 more(3,2,54087)=none more(3,2,232569)=0 more(3,2,232568)=1 more(3,4,16)=8 more(3,4,15)=none more(3,6,1)=0 more(3,5,1)=5 more(3,5,2)=4");
    b.due("count(9)=8 more(3,2,54088)=8");
  }
}
