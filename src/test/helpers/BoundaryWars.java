/** Promises 5 to 15 and part ==== 2 of "Terms": SKILL, who OBEYS, OURS, what is done by hand, UNDO and JUDGED at their bounds. */
final class BoundaryWars {
  private final Bench b;

  BoundaryWars(Bench b) { this.b = b; }

  void all() {
    post();
    man();
    skill();
    ours();
    draw();
    sell();
    order();
    weeks();
    undo();
    judged();
    first();
    skillOfAMan();
    obeying();
    strength();
    drawing();
    selling();
    passing();
    quarters();
    undoing();
    theLast16();
    judging();
    leftOut();
  }

  private void post() {
    b.holds(5, "Of a POST, what 0: KIND, 1: weighs, 2: under which (NONE: none), 3: its MAN (NONE: none), 4: 1 it OBEYS; NONE: others.");
    b.fresh(Samples.ARMY);
    b.due("post(0,0)=0 post(0,1)=2 post(0,2)=none post(0,3)=0 post(0,4)=1");
    b.due("post(1,0)=2 post(1,1)=3 post(1,2)=0 post(1,3)=1 post(1,4)=1");
    b.due("post(2,0)=1 post(2,1)=1 post(2,2)=1 post(2,3)=2 post(2,4)=0");
    Samples.busyWithTape(b);
    b.refused("post(0,-1)=none post(0,5)=none post(0,MIN)=none post(0,MAX)=none");
    for (int what = -1; what <= 5; what++) b.refused("post(-1," + what + ")=none post(3," + what + ")=none post(6," + what + ")=none");
    b.refused("post(MIN,0)=none post(MAX,0)=none post(32,0)=none post(MIN,4)=none");
    b.refused("post(0,3)=2 post(2,3)=0 post(0,4)=1 post(2,4)=0");
    b.fresh("post a foot weighs 1;");
    b.due("post(0,3)=none post(0,4)=0");
    b.fresh(Samples.posts(6) + Samples.men(5));
    b.due("post(5,0)=0 post(5,1)=6 post(5,2)=none post(5,3)=none post(5,4)=0 post(4,3)=4 post(4,4)=1 post(6,0)=none");
  }

  private void man() {
    b.holds(6, "Of a MAN, what 0: brave, 1: wit, 2: coins, 3: his POST (NONE: none); NONE: others.");
    b.fresh(Samples.ARMY);
    b.due("man(0,0)=4 man(0,1)=1 man(0,2)=7 man(0,3)=0 man(3,0)=5 man(3,1)=5 man(3,2)=999 man(3,3)=none");
    Samples.busyWithTape(b);
    b.refused("man(0,-1)=none man(0,4)=none man(0,MIN)=none man(0,MAX)=none");
    for (int what = -1; what <= 4; what++) b.refused("man(-1," + what + ")=none man(4," + what + ")=none man(6," + what + ")=none");
    b.refused("man(MIN,0)=none man(MAX,0)=none man(32,2)=none man(MIN,3)=none");
    b.refused("man(0,3)=2 man(1,3)=1 man(2,3)=0 man(3,3)=none");
    b.fresh(Samples.men(6));
    b.due("man(5,0)=6 man(5,1)=0 man(5,2)=6 man(5,3)=none man(6,0)=none");
  }

  private void skill() {
    b.holds(7, "SKILL; NONE: others.");
    Samples.busyWithTape(b);
    b.refused("skill(0,0)=4 skill(3,2)=5 skill(2,2)=0 skill(2,0)=9");
    b.refused("skill(-1,0)=none skill(4,0)=none skill(0,-1)=none skill(0,3)=none skill(4,3)=none skill(-1,-1)=none");
    b.refused("skill(MIN,0)=none skill(MAX,0)=none skill(0,MIN)=none skill(0,MAX)=none skill(MAX,MAX)=none");
    b.fresh(Samples.posts(6) + Samples.men(6));
    b.due("skill(5,5)=6 skill(5,6)=none skill(6,5)=none");
    b.fresh(Samples.posts(6));
    b.due("skill(0,0)=none");
    b.fresh(Samples.men(6));
    b.due("skill(0,0)=none");
  }

  private void ours() {
    b.holds(8, "OURS now.");
    b.due("ours()=0");
    b.fresh(Samples.posts(6));
    b.due("ours()=0");
    b.fresh(Samples.men(6));
    b.due("ours()=0");
    b.fresh(Samples.ARMY);
    b.refused("ours()=11");
    // y at a is not heeded: 4; then v at a, y has none, x at b: 10 and half of 12
    b.due("sell(0,1,0)=yes ours()=4 sell(1,3,0)=yes ours()=16 undo()=yes ours()=4 mark(0,lay)=yes draw(3)=yes ours()=21 mark(0,back)=yes ours()=4");
  }

  private void draw() {
    b.holds(9, "DRAW by a SEED (0 to 9999): true; false: others.");
    Samples.busyWithTape(b);
    b.refused("draw(-1)=no draw(10000)=no draw(MIN)=no draw(MAX)=no draw(-9999)=no draw(65536)=no");
    b.due("draw(0)=yes post(0,3)=1 draw(9999)=yes post(0,3)=0 post(1,3)=3 post(2,3)=2 count(10)=6");
    b.fresh();
    b.due("draw(0)=yes draw(9999)=yes draw(10000)=no count(10)=2");
  }

  private void sell() {
    b.holds(10, "SELL (0 to 999 coins): true; false: others, it can't be.");
    // z has a, y has b, x has c, v has none
    Samples.busyWithTape(b);
    b.refused("sell(0,0,0)=no sell(0,1,4)=no sell(0,2,1)=no sell(0,1,-1)=no sell(0,3,1000)=no sell(0,3,MAX)=no sell(0,3,MIN)=no");
    b.refused("sell(3,0,0)=no sell(3,0,7)=no sell(3,3,0)=no");
    b.refused("sell(-1,0,0)=no sell(4,0,0)=no sell(0,-1,0)=no sell(0,4,0)=no sell(-1,-1,0)=no sell(4,4,0)=no");
    b.refused("sell(MIN,0,0)=no sell(MAX,0,0)=no sell(0,MIN,0)=no sell(0,MAX,0)=no");
    b.due("sell(0,1,0)=yes sell(0,1,3)=yes sell(0,3,999)=yes count(6)=1009 count(10)=7");
    b.fresh(Samples.ARMY);
    // x has 1,006 coins then: more than can be asked at once
    b.due("sell(0,3,999)=yes man(0,2)=1006 man(3,2)=0 man(0,3)=none man(3,3)=0");
    b.refused("sell(3,0,1000)=no sell(3,0,1006)=no");
    b.due("sell(3,0,999)=yes man(0,2)=7 man(3,2)=999 man(0,3)=0 man(3,3)=none");
  }

  private void order() {
    b.holds(11, "ORDER (0 hold, 1 push, 2 yield): true; false: others, it is ordered already.");
    b.fresh(Samples.ARMY);
    b.refused("order(0)=no order(-1)=no order(3)=no order(MIN)=no order(MAX)=no");
    b.due("order(1)=yes count(5)=1");
    b.refused("order(1)=no order(-1)=no order(3)=no");
    b.due("order(2)=yes count(5)=2");
    b.refused("order(2)=no order(3)=no");
    b.due("order(0)=yes count(5)=0 count(10)=3");
    b.refused("order(0)=no");
    Samples.busyWithTape(b);
    b.refused("order(2)=no order(3)=no order(-1)=no");
  }

  private void weeks() {
    b.holds(12, "WEEKS (1 to 13): how many passed by this; NONE: others, none can.");
    Samples.busyWithTape(b);
    b.refused("weeks(0)=none weeks(-1)=none weeks(14)=none weeks(MIN)=none weeks(MAX)=none");
    b.due("weeks(1)=1");
    // the quarter is over
    b.refused("weeks(1)=none weeks(13)=none weeks(0)=none weeks(14)=none");
    b.fresh("goes 0; quarter 13;");
    b.due("weeks(13)=13 count(4)=13");
    b.refused("weeks(1)=none");
    b.fresh("front 4 at 1;");
    b.due("weeks(13)=1 count(3)=0");
    b.refused("weeks(1)=none weeks(13)=none");
    b.due("draw(0)=yes");
    b.refused("weeks(1)=none");
    b.fresh("front 4 at 3; goes 1;");
    b.due("weeks(13)=1 count(3)=4");
    b.refused("weeks(1)=none weeks(13)=none");
  }

  private void undo() {
    b.holds(13, "UNDO: true; false: nothing can be.");
    b.refused("undo()=no");
    b.fresh(Samples.ARMY);
    b.refused("undo()=no");
    b.due("see(1)=yes tell(0,0)=yes mark(0,lay)=yes");
    b.war("draw 1;");
    b.refused("undo()=no");
    b.due("order(1)=yes undo()=yes");
    b.refused("undo()=no");
    Samples.busy(b);
    b.due("undo()=yes undo()=yes undo()=yes undo()=yes");
    b.refused("undo()=no");
  }

  private void judged() {
    b.holds(14, "JUDGED, what 0: the first line that can't be (NONE: all can), 1: the front, 2: weeks; -2: others.");
    b.refused("judged(0)=none judged(1)=5 judged(2)=0");
    b.refused("judged(-1)=other judged(3)=other judged(-2)=other judged(MIN)=other judged(MAX)=other");
    Samples.busyWithTape(b);
    // y has a and z b behind draw 5, x has c: he sells it to y for 1; x at a is heeded, so is z at b: 8, half of 27, 6
    b.refused("judged(0)=none judged(1)=5 judged(2)=2");
    b.refused("judged(-1)=other judged(3)=other judged(MIN)=other judged(MAX)=other");
  }

  private void first() {
    b.holds(15, "FIRST; NONE: none.");
    b.refused("first()=none");
    b.holds(Document.TERMS, "FIRST order that is not given: of POSTS that are held and do not OBEY, the first one that is under one that OBEYS or is not held.");
    b.fresh(Samples.posts(6));
    b.due("first()=none");
    b.fresh(Samples.posts(6) + Samples.men(6));
    b.due("first()=none");
    b.fresh(Samples.ARMY);
    b.refused("first()=2");
    // y at a: b is not led; c is under b, which does not obey
    b.due("sell(0,1,0)=yes first()=1");
    // x at b again and v at a: y has none, z at c is led by x, of 4
    b.due("undo()=yes sell(1,3,0)=yes first()=none");
    // a chain of six, each led by the one ahead: the one behind the first that has too little
    String chain = "post a foot weighs 1;";
    for (char post = 'b'; post <= 'f'; post++) chain += "post " + post + " foot weighs 1 under " + (char) (post - 1) + ";";
    for (int bad = 0; bad < 6; bad++) {
      String men = "";
      for (int i = 0; i < 6; i++) men += "man m" + (char) ('a' + i) + " brave " + (i == bad ? 2 : 3) + " wit 0 coins 0;";
      b.fresh(chain + men);
      b.due("first()=" + (bad < 5 ? bad + 1 : -1) + " post(5,4)=" + (bad < 5 ? 0 : 1));
    }
    // two at once, told in the other order of their leaders: the first by number
    b.fresh("post a foot weighs 1; post b foot weighs 1; post c foot weighs 1 under b; post d foot weighs 1 under a;"
        + Samples.men(4).replace("brave 3", "brave 9") + "heed 9;");
    b.due("first()=2");
    // one that would not obey, but is not held
    b.fresh("post a foot weighs 1; post b foot weighs 1 under a; man m brave 0 wit 0 coins 0;");
    b.due("post(1,4)=0 first()=none");
  }

  private void skillOfAMan() {
    b.holds(Document.TERMS, "SKILL of a MAN at a POST: the E of skill, 0 to 99.");
    String[] laws = {"0 - 9999", "0 - 1", "0", "1", "98", "99", "100", "9999", "256 * 256 * 256 * 128", "256 * 256 * 256 * 128 - 1"};
    int[] due = {0, 0, 0, 1, 98, 99, 99, 99, 0, 99};
    for (int i = 0; i < laws.length; i++) {
      b.fresh("post a foot weighs 1; man m brave 5 wit 5 coins 5; skill " + laws[i] + ";");
      b.due("skill(0,0)=" + due[i] + " ours()=" + due[i] + " pool(1)=" + due[i]);
    }
    b.fresh("post a horse weighs 1; post b foot weighs 9; man m brave 9 wit 0 coins 5; man n brave 0 wit 9 coins 0;");
    b.due("skill(0,0)=0 skill(0,1)=9 skill(1,0)=9 skill(1,1)=0");
  }

  private void obeying() {
    b.holds(Document.TERMS, "A POST that is held OBEYS if it is under none, or if the one it is under is held and OBEYS,"
        + " and that one's MAN has no less SKILL at that one than heed.");
    String two = "post a foot weighs 1; post b foot weighs 1 under a;";
    for (int skill = 3; skill <= 5; skill++) {
      b.fresh(two + "man m brave " + skill + " wit 0 coins 0; man n brave 0 wit 0 coins 0; heed 4;");
      b.due("post(0,4)=1 post(1,4)=" + (skill < 4 ? 0 : 1));
    }
    // skill at the one it is under, not at its own: a horse is led by sense
    b.fresh("post a horse weighs 1; post b foot weighs 1 under a; man m brave 9 wit 2 coins 0; man n brave 0 wit 3 coins 0;");
    b.due("post(1,4)=0 sell(0,1,0)=yes post(1,4)=1");
    // not held: neither under none nor under one
    b.fresh(two);
    b.due("post(0,4)=0 post(1,4)=0");
    b.fresh(two + "man m brave 9 wit 0 coins 0;");
    b.due("post(0,4)=1 post(1,4)=0");
    // the one ahead has the skill, but does not obey itself
    b.fresh("post a foot weighs 1; post b foot weighs 1 under a; post c foot weighs 1 under b; post d foot weighs 1 under c;"
        + "man m brave 2 wit 0 coins 0; man n brave 9 wit 0 coins 0; man o brave 9 wit 0 coins 0; man p brave 9 wit 0 coins 0;");
    b.due("post(0,4)=1 post(1,4)=0 post(2,4)=0 post(3,4)=0 ours()=2");
    b.due("sell(0,3,0)=yes post(0,4)=1 post(1,4)=1 post(2,4)=1 post(3,4)=1 ours()=29");
    // its own man needs no skill
    b.fresh(two + "man m brave 3 wit 0 coins 0; man n brave 0 wit 0 coins 0;");
    b.due("post(1,4)=1 ours()=3");
  }

  private void strength() {
    b.holds(Document.TERMS, "OURS: of all that OBEY SKILL times what they weigh, a mule half of that, cut, a foe the other way (less), 0 at least.");
    String six = "";
    for (char post = 'a'; post <= 'f'; post++) six += "post " + post + " foot weighs 9;";
    b.fresh(six + Samples.men(6) + "skill 99;");
    b.due("ours()=5346");
    b.fresh(six.replace("foot", "foe") + Samples.men(6) + "skill 99;");
    b.due("ours()=0");
    b.fresh(six.replace("foot", "mule") + Samples.men(6) + "skill 99;");
    b.due("ours()=2670");
    int[] half = {0, 0, 1, 1, 2, 2, 3, 3, 4, 4};
    for (int courage = 0; courage <= 9; courage++) {
      b.fresh("post a mule weighs 1; man m brave " + courage + " wit 0 coins 0;");
      b.due("ours()=" + half[courage]);
    }
    b.fresh("post a mule weighs 3; man m brave 5 wit 0 coins 0;");
    b.due("ours()=7");
    // each mule is cut by itself
    b.fresh("post a mule weighs 1; post b mule weighs 1; man m brave 3 wit 0 coins 0; man n brave 3 wit 0 coins 0;");
    b.due("ours()=2");
    for (int foe = 4; foe <= 6; foe++) {
      b.fresh("post a foot weighs 1; post b foe weighs 1; man m brave 5 wit 0 coins 0; man n brave " + foe + " wit 0 coins 0;");
      b.due("ours()=" + Math.max(0, 5 - foe));
    }
    // a foe ahead takes from those behind it, too
    b.fresh("post b foe weighs 1; post a foot weighs 1; man n brave 4 wit 0 coins 0; man m brave 5 wit 0 coins 0;");
    b.due("ours()=1");
    // a foe that does not obey takes nothing
    b.fresh("post a foot weighs 2; post b foe weighs 9 under a; man m brave 2 wit 0 coins 0; man n brave 9 wit 0 coins 0;");
    b.due("ours()=4");
    b.fresh("post a horse weighs 9; man m brave 9 wit 1 coins 0;");
    b.due("ours()=9");
  }

  private void drawing() {
    b.holds(Document.TERMS, "By hand: DRAW by a SEED: the MEN stand in a row, by numbers; from the last one on to the second each changes places with"
        + " a DRAW below as many as stand up to him (from 0); then the i-th in the row has the i-th POST, those without one none"
        + " (a POST without a MAN is not held).");
    for (int men = 0; men <= 6; men++) {
      for (int posts : new int[] {0, 1, 3, 6}) {
        for (int seed : new int[] {0, 1, 2, 3, 4, 5, 9998, 9999}) hasDrawn(seed, posts, men);
      }
    }
    // worked out by hand: 0 of 2 for seed 0, then 1 of 3 and so on
    b.fresh(Samples.posts(6) + Samples.men(6));
    b.due("draw(3)=yes post(0,3)=3 post(1,3)=0 post(2,3)=4 post(3,3)=1 post(4,3)=2 post(5,3)=5");
    // each draw begins with the MEN by numbers
    b.due("draw(5)=yes draw(3)=yes post(0,3)=3 post(1,3)=0 post(2,3)=4 post(3,3)=1 post(4,3)=2 post(5,3)=5");
    b.fresh(Samples.posts(6) + Samples.men(2));
    b.due("draw(0)=yes post(0,3)=1 post(1,3)=0 post(2,3)=none post(2,4)=0 post(5,3)=none post(5,4)=0");
    // coins, the order, the front and the week are as before
    Samples.busy(b);
    b.due("draw(0)=yes count(3)=4 count(4)=1 count(5)=2 count(6)=1009 man(0,2)=7 man(3,2)=999 count(8)=2 count(9)=2");
  }

  private void hasDrawn(int seed, int posts, int men) {
    b.fresh(Samples.posts(posts) + Samples.men(men));
    b.due("draw(" + seed + ")=yes");
    int[] row = new Lots(seed).row(men);
    for (int post = 0; post < posts; post++) b.due("post(" + post + ",3)=" + (post < men ? row[post] : -1));
    for (int i = 0; i < men; i++) b.due("man(" + row[i] + ",3)=" + (i < posts ? i : -1));
  }

  private void selling() {
    b.holds(Document.TERMS, "SELL: two MEN change POSTS (one may have none), the first one, who has a POST, has so many coins from the second, who has these.");
    b.fresh(Samples.ARMY);
    b.due("sell(0,1,3)=yes post(0,3)=1 post(1,3)=0 man(0,2)=10 man(1,2)=0 man(2,2)=0 man(3,2)=999 count(6)=1009");
    // he has 0 coins left: 0 can be, 1 can't
    b.refused("sell(0,1,1)=no");
    b.due("sell(0,1,0)=yes post(0,3)=0 post(1,3)=1 man(0,2)=10 man(1,2)=0");
    // 10 coins: 10 can be, 11 can't
    b.refused("sell(1,0,11)=no");
    b.due("sell(1,0,10)=yes man(0,2)=0 man(1,2)=10 post(0,3)=1");
    // one has none: the buyer may, the seller may not
    b.refused("sell(3,0,0)=no sell(3,1,0)=no sell(3,2,0)=no");
    b.due("sell(1,3,998)=yes post(0,3)=3 man(1,3)=none man(3,3)=0 man(3,2)=1 man(1,2)=1008 post(1,3)=0 post(2,3)=2");
    b.refused("sell(1,3,1)=no sell(1,0,0)=no");
    b.due("sell(3,1,0)=yes man(1,3)=0 man(3,3)=none");
    // nobody has one
    b.fresh(Samples.men(2));
    b.refused("sell(0,1,0)=no sell(1,0,0)=no");
    b.fresh(Samples.posts(1) + Samples.men(1));
    b.refused("sell(0,0,0)=no sell(0,1,0)=no");
    b.fresh(Samples.posts(6) + Samples.men(6));
    b.due("sell(5,0,1)=yes post(0,3)=5 post(5,3)=0 man(5,2)=7 man(0,2)=0");
  }

  /** Where a front of 20 cells at 10 is a week behind, by a law. */
  private void goesBy(String law, int front) {
    b.fresh("front 20 at 10; goes " + law + ";");
    b.due("weeks(1)=1 count(3)=" + front + " count(4)=1");
  }

  private void passing() {
    b.holds(Document.TERMS, "ORDER. WEEKS, one by one, as long as the front is neither 0 nor the cells: it goes by the E of goes (-3 to 3; 0 to the cells);"
        + " then a week more has passed.");
    goesBy("0 - 9999", 7);
    goesBy("0 - 4", 7);
    goesBy("0 - 3", 7);
    goesBy("0 - 2", 8);
    goesBy("0 - 1", 9);
    goesBy("0", 10);
    goesBy("1", 11);
    goesBy("2", 12);
    goesBy("3", 13);
    goesBy("4", 13);
    goesBy("9999", 13);
    goesBy("256 * 256 * 256 * 128", 7);
    goesBy("256 * 256 * 256 * 128 - 1", 13);
    // 0 at least, the cells at most; the week that ends it counts
    for (int at = 1; at <= 3; at++) {
      b.fresh("front 4 at " + at + "; goes 0 - 3;");
      b.due("weeks(13)=1 count(3)=0 count(4)=1");
      b.refused("weeks(1)=none");
      b.fresh("front 4 at " + at + "; goes 3;");
      b.due("weeks(13)=1 count(3)=4 count(4)=1");
      b.refused("weeks(1)=none");
    }
    // next to the ends it goes on
    b.fresh("front 10 at 3; goes 0 - 2;");
    b.due("weeks(1)=1 count(3)=1 weeks(1)=1 count(3)=0 weeks(1)=none count(4)=2");
    b.fresh("front 10 at 7; goes 2;");
    b.due("weeks(1)=1 count(3)=9 weeks(1)=1 count(3)=10 weeks(1)=none count(4)=2");
    b.fresh("front 40 at 39; goes 0 - 3;");
    b.due("weeks(12)=12 count(3)=3 weeks(1)=1 count(3)=0 count(4)=13 count(12)=1");
    b.fresh("front 40 at 1; goes 3;");
    b.due("weeks(13)=13 count(3)=40 count(4)=13");
    // at an end an order and a sale still can be
    b.fresh(Samples.ARMY + "goes 0 - 3;");
    b.due("weeks(13)=1 order(1)=yes sell(0,1,3)=yes draw(0)=yes weeks(1)=none undo()=yes undo()=yes undo()=yes undo()=yes count(3)=3 weeks(1)=1");
  }

  private void quarters() {
    b.holds(Document.TERMS, "When a quarter is over (weeks passed a multiple of it, above 0) no WEEK can be till a DRAW.");
    b.fresh("quarter 5; goes 0;");
    b.due("count(12)=0 weeks(4)=4 count(12)=0 weeks(1)=1 count(12)=1");
    b.refused("weeks(1)=none");
    // nothing but a DRAW lets it go on
    b.due("order(1)=yes see(5)=yes mark(0,lay)=yes weeks(1)=none count(12)=1");
    b.war("draw 1;");
    b.due("judged(0)=none years(1,1,0)=5 weeks(1)=none draw(10000)=no weeks(1)=none");
    b.due("draw(0)=yes weeks(13)=5 count(4)=10 count(12)=1 weeks(1)=none draw(0)=yes weeks(4)=4 count(12)=0 weeks(4)=1 count(4)=15 count(12)=1");
    // a draw within a quarter does not begin it anew
    b.fresh("quarter 5; goes 0;");
    b.due("draw(0)=yes weeks(3)=3 draw(0)=yes weeks(13)=2 count(12)=1 weeks(1)=none draw(0)=yes draw(0)=yes weeks(13)=5");
    // undone and gone back to
    b.due("undo()=yes count(4)=5 weeks(13)=5 undo()=yes undo()=yes weeks(1)=1 undo()=yes undo()=yes count(12)=1 weeks(1)=none");
    b.fresh("quarter 5; goes 0;");
    b.due("weeks(5)=5 mark(0,lay)=yes draw(0)=yes mark(1,lay)=yes weeks(2)=2 mark(2,lay)=yes");
    b.due("mark(0,back)=yes count(12)=1 weeks(1)=none mark(1,back)=yes weeks(13)=5 mark(2,back)=yes count(12)=0 weeks(13)=3 count(4)=10");
    b.fresh("quarter 1; goes 0;");
    b.due("count(12)=0 weeks(13)=1 count(12)=1 weeks(13)=none draw(0)=yes weeks(13)=1 count(4)=2");
    b.fresh("quarter 13; goes 0;");
    for (int i = 1; i <= 4; i++) b.due("weeks(13)=13 count(4)=" + 13 * i + " count(12)=1 weeks(1)=none draw(9)=yes");
    // an ARMY begins with no quarter over
    b.fresh("quarter 1; goes 0;");
    b.due("weeks(1)=1 count(12)=1");
    b.army("quarter 1; goes 0;");
    b.due("count(12)=0 weeks(1)=1");
  }

  private void undoing() {
    b.holds(Document.TERMS, "UNDO: these, the last 16, one by one (WEEKS of one call as one).");
    b.fresh("front 40 at 20; goes 1;");
    b.due("weeks(13)=13 count(10)=1 undo()=yes count(3)=20 count(4)=0 count(12)=0 undo()=no");
    b.due("weeks(6)=6 weeks(7)=7 count(10)=2 undo()=yes count(4)=6 count(3)=26 undo()=yes count(4)=0 undo()=no");
    b.fresh(Samples.ARMY);
    b.due("draw(3)=yes sell(0,1,3)=yes order(1)=yes weeks(2)=2 count(10)=4 count(12)=1 post(2,3)=1 man(0,2)=10 count(3)=5");
    b.due("undo()=yes count(12)=0 count(4)=0 count(3)=3 count(5)=1 undo()=yes count(5)=0 man(0,2)=10");
    b.due("undo()=yes man(0,2)=7 man(1,2)=3 post(2,3)=0 post(1,3)=1 undo()=yes post(0,3)=0 post(2,3)=2 count(10)=0");
    b.isAsNewWith(Samples.ARMY);
    // what is no one of these is neither counted nor undone
    b.due("order(1)=yes see(2)=yes tell(1,1)=yes mark(2,lay)=yes count(10)=1");
    b.war("weeks 3;");
    b.feed("heed");
    b.due("count(10)=1 undo()=yes count(8)=1 count(9)=1 count(7)=1 count(11)=4 count(5)=0 mark(2,back)=yes count(5)=1");
    // weeks that end at 0 or by the quarter are undone with those that passed
    b.fresh("front 4 at 2;");
    b.due("weeks(13)=2 count(3)=0 undo()=yes count(3)=2 count(4)=0 weeks(1)=1 weeks(13)=1 undo()=yes count(3)=1 count(4)=1");
  }

  private void theLast16() {
    b.holds(Document.TERMS, "UNDO: these, the last 16, one by one");
    for (int many = 15; many <= 20; many++) {
      b.fresh();
      for (int i = 1; i <= many; i++) b.due("order(" + i % 3 + ")=" + (i % 3 == (i - 1) % 3 ? "no" : "yes"));
      int kept = Math.min(16, many);
      b.due("count(10)=" + kept);
      for (int i = 1; i <= kept; i++) b.due("undo()=yes count(10)=" + (kept - i) + " count(5)=" + (many - i) % 3);
      b.refused("undo()=no");
      b.due("order(" + (many - kept + 1) % 3 + ")=yes count(10)=1 undo()=yes undo()=no");
    }
    // some undone, others done in their stead, round and round
    b.fresh();
    for (int round = 0; round < 5; round++) {
      for (int i = 1; i <= 9; i++) b.due("order(" + i % 3 + ")=yes");
      b.due("undo()=yes undo()=yes undo()=yes undo()=yes count(5)=2 order(0)=yes");
    }
    // 6 a round; from the third on 16 are there ahead of the four, 13 behind the one more
    b.due("count(10)=13");
    for (int i = 1; i <= 13; i++) b.due("undo()=yes count(5)=" + (30 - i) % 3);
    b.due("undo()=no");
  }

  private void judging() {
    b.holds(Document.TERMS, "JUDGED: the WAR from the begin: the first line (from 0) that can't be (a line of weeks: not all of them);");
    Samples.busy(b);
    // by hand it is at 4, in week 1, yield is ordered, z has a
    b.war("order yield;");
    b.due("judged(0)=none judged(1)=3 judged(2)=0");
    b.war("order hold;");
    b.due("judged(0)=0");
    b.war("order push; order yield; order hold; order hold; order hold;");
    b.due("judged(0)=3");
    b.war("weeks 2;");
    b.due("judged(0)=none judged(2)=2");
    b.war("weeks 1; weeks 2;");
    b.due("judged(0)=1 judged(2)=2");
    b.war("weeks 2; weeks 1;");
    b.due("judged(0)=1 judged(2)=2");
    b.war("weeks 2; draw 9999; weeks 1;");
    b.due("judged(0)=none judged(2)=3");
    b.war("sell x y 3; sell y x 10;");
    b.due("judged(0)=none");
    b.war("sell x y 4;");
    b.due("judged(0)=0");
    b.war("sell x y 3; sell y x 11;");
    b.due("judged(0)=1");
    b.war("sell v x 0;");
    b.due("judged(0)=0");
    b.war("sell x v 999; sell x y 0;");
    b.due("judged(0)=1");
    b.war("order push; order hold;".repeat(12));
    b.due("judged(0)=none judged(1)=3 judged(2)=0");
    b.war("order push; order hold;".repeat(11) + "order push; order push;");
    b.due("judged(0)=23");
    b.war("draw 1;".repeat(23) + "weeks 3;");
    b.due("judged(0)=23 judged(2)=2");
    b.war("");
    b.due("judged(0)=none judged(1)=3 judged(2)=0");
  }

  private void leftOut() {
    b.holds(Document.TERMS, "lines that can't be are left out (of weeks as many as can be are); where the front is at last; how many weeks passed.");
    b.fresh(Samples.ARMY);
    // sold for 4, x would have had b, and nobody have heeded y: left out, 11 hold against 12
    b.war("sell x y 4; weeks 13; weeks 5; draw 9999; weeks 13;");
    b.due("judged(0)=0 judged(1)=3 judged(2)=4");
    // coins of a sale that can't be stay: y can buy for 3 behind it
    b.war("sell x y 4; sell x y 3; order push; weeks 1;");
    b.due("judged(0)=0 judged(1)=2 judged(2)=1");
    // at 0 draws can be and weeks can't; the last week counts
    b.war("order yield; weeks 2; draw 0; weeks 1; weeks 1; draw 0; weeks 13; order hold;");
    b.due("judged(0)=4 judged(1)=0 judged(2)=3");
    b.war("order yield; weeks 2; draw 0; weeks 13;");
    b.due("judged(0)=3 judged(1)=0 judged(2)=3");
    b.fresh("front 5 at 1; goes 3; quarter 13;");
    b.war("weeks 2; draw 0; order push;");
    b.due("judged(0)=none judged(1)=5 judged(2)=2");
    b.war("weeks 3; weeks 1;");
    b.due("judged(0)=0 judged(1)=5 judged(2)=2");
    b.fresh("goes 0;");
    b.war("weeks 13; draw 0;".repeat(12));
    b.due("judged(0)=none judged(1)=5 judged(2)=156");
    b.war("weeks 13;".repeat(24));
    b.due("judged(0)=1 judged(1)=5 judged(2)=13");
    // nothing by hand goes by it
    b.due("count(3)=5 count(4)=0 weeks(2)=2 judged(2)=13 count(10)=1");
  }
}
