/** Promises 1 to 4 and part ==== 1 of "Terms": the TAPE, tokens, ARMIES, WARS, laws and FAULTS at their bounds. */
final class BoundaryTexts {
  private static final String[] KEPT = ("post weighs under man brave wit coins front at theirs quarter heed skill worth goes"
      + " draw sell order weeks hold push yield foot horse mule foe not and or").split(" ");
  private static final String[] FACTS = "courage sense load kind ours against what".split(" ");
  private static final String SIGNS = "()<=+-*;";
  private final Bench b;

  BoundaryTexts(Bench b) { this.b = b; }

  void all() {
    usedFor512Calls();
    newObject();
    feed();
    army();
    war();
    tape();
    words();
    numbers();
    noTokens();
    linesOfAnArmy();
    posts();
    men();
    front();
    theirs();
    quarter();
    heed();
    onceEach();
    linesOfAWar();
    names();
    laws();
    withinFive();
    facts();
    truth();
    wrapping();
    withoutLaws();
    faults();
    faultsByKind();
    anArmyFromThenOn();
    aWarIsTheWar();
    atFirst();
  }

  private void usedFor512Calls() {
    b.holds(Document.WHAT_IT_IS, "An object is used for at most 512 calls after it has been made; what later calls answer is free.");
    b.fresh(Samples.ARMY);
    while (b.calls() < 510) b.due("draw(0)=yes");
    b.due("count(10)=16");
    b.due("post(0,3)=1");
    b.same("calls", b.calls(), 512);
    b.fresh();
    while (b.calls() < 511) b.feed("a");
    b.feed(0x6161616161616161L, 0x6161616161616161L, 0x6161616161616161L, 535);
  }

  private void newObject() {
    b.holds(1, "Nothing.");
    b.due("count(0)=0 count(1)=0 count(2)=10 count(3)=5 count(4)=0 count(5)=0 count(6)=0 count(7)=0 count(8)=0 count(9)=0 count(10)=0");
    b.due("count(11)=0 count(12)=0 undo()=no mark(0,back)=no mark(1,back)=no mark(2,back)=no mark(3,back)=no");
    b.due("post(0,0)=none man(0,0)=none skill(0,0)=none ours()=0 first()=none best(none)=0 best(0)=other mean()=0 loss()=0");
    b.due("judged(0)=none judged(1)=5 judged(2)=0 swaps(0)=other leave()=0 pool(0)=none pool(1)=none share(0,0)=none share(1,0)=none");
    b.due("fair(0,1)=none more(0,1,1)=none orders(none)=1 orders(0)=other putOff(0)=5 putOff(1)=0 rests(0,0,none)=4");
    b.refused("sell(0,0,0)=no sell(0,1,0)=no tell(0,0)=no order(0)=no");
    b.due("years(0,1,2)=0 draw(0)=yes order(1)=yes weeks(13)=5 count(3)=0 see(0)=yes see(10)=yes");
  }

  private void feed() {
    b.holds(2, "Up to 24 signs come behind the TAPE: the bytes of a, b, c, of each the highest first;");
    b.feed(0, 0, 0, 0);
    b.feed(0x6161616161616161L, 0x6161616161616161L, 0x6161616161616161L, 24);
    for (int i = 0; i < 24; i++) {
      b.fresh();
      b.feed(i < 8 ? 0x61L << 56 - 8 * i : 0, i >= 8 && i < 16 ? 0x61L << 56 - 8 * (i - 8) : 0, i >= 16 ? 0x61L << 56 - 8 * (i - 16) : 0, 1);
    }
    b.fresh();
    // "heed 12;" in a, then "quarter " in b and "3;" in c: any other order is a FAULT
    b.feed(0x686565642031323bL, 0x7175617274657220L, 0x333b000000000000L, 18);
    b.due("army()=0");
    b.fresh();
    b.feed(0x6600000000000072L, 0x6f00000000006e74L, 0x2000380061740034L, 10);
    b.feed(0x3b00000000000000L, 0, 0, 11);
    b.due("army()=0 count(2)=8 count(3)=4");
    b.holds(2, "others than 10 and 32 .. 126, and what is beyond 1,000, are left out: how many there are.");
    b.feed(0x0a0a0a0a0a0a0a0aL, 0x2020202020202020L, 0x7e7e7e7e7e7e7e7eL, 24);
    b.feed(0x09090b0b1f1f7f7fL, -1, Long.MIN_VALUE, 24);
    b.feed(0x8a8aa0a0fefee1e1L, 0x00ff80c9ff00ff00L, 0, 24);
    for (int i = 1; i < 41; i++) b.feed(0x2020202020202020L, 0x2020202020202020L, 0x2020202020202020L, 24 * (i + 1));
    b.due("count(11)=984");
    b.feed(0x2020202020202020L, 0x2020202020202000L, 0, 999);
    b.feed(0x0000000000000000L, 0x00ff000000002000L, 0x2020202020202020L, 1000);
    b.refused("feed(97,97,97)=1000 feed(0,0,0)=1000 feed(32,10,126)=1000");
  }

  private void army() {
    b.holds(3, "The TAPE is read as an ARMY: 0, or its FAULT (all stays then).");
    b.due("army()=0");
    b.feed(" ");
    b.due("army()=0");
    b.feed(" \n ");
    b.due("army()=0 count(0)=0");
    b.feed("#");
    b.due("army()=1 count(11)=0");
    Samples.busy(b);
    b.armyFault(1, "post^");
    b.armyFault(1, "^#");
    b.armyFault(1, "front 9 at 4; heed 5; man x brave 1 wit 1 coins 1; post a foot weighs 1; skill 1; worth 1; goes 1; theirs 1; quarter 1^");
    b.armyFault(1, " ".repeat(999) + "^#");
    b.armyFault(3, "post q foot weighs 9; man r brave 9 wit 9 coins 9; front 40 at 39; goes 3; skill 99; worth 5; man ^q");
    b.armyFault(1, "^draw 1;");
    b.due("count(0)=3 count(1)=4 count(2)=8");
  }

  private void war() {
    b.holds(4, "The TAPE is read as a WAR, likewise.");
    b.due("war()=0 count(7)=0");
    b.feed(" \n ");
    b.due("war()=0 count(7)=0");
    b.feed("draw 1;");
    b.due("war()=0 count(7)=1 count(11)=0");
    Samples.busy(b);
    b.due("count(7)=4");
    b.warFault(1, "weeks 1; draw^");
    b.warFault(1, "^#");
    b.warFault(1, "draw 1; draw 2; draw 3; draw 4; draw 5; draw 6; sell y x 0; order yield; weeks 13^");
    b.warFault(1, "^post q foot weighs 1;");
    b.warFault(2, "sell ^q x 1;");
    b.due("count(7)=4 judged(0)=none");
  }

  private void tape() {
    b.holds(Document.TERMS, "The TAPE has at most 1,000 signs, 10 and 32 .. 126; what reads it takes it: it is empty then.");
    for (int sign = 0; sign < 256; sign++) {
      b.fresh();
      boolean isOne = sign == 10 || sign >= 32 && sign <= 126;
      b.feed((long) sign << 56, 0, 0, isOne ? 1 : 0);
      b.fresh();
      b.feed(0, 0, sign, isOne ? 1 : 0);
    }
    b.fresh();
    b.feed(" ".repeat(999));
    b.due("count(11)=999");
    b.feed(" ");
    b.due("count(11)=1000");
    b.refused("feed(32,0,0)=1000");
    String line = "post a foot weighs 1;";
    b.fresh(" ".repeat(999 - line.length()) + line);
    b.due("count(0)=1");
    b.fresh(" ".repeat(1000 - line.length()) + line);
    b.due("count(0)=1");
    b.fresh();
    b.feed(" ".repeat(1001 - line.length()) + line);
    b.due("count(11)=1000 army()=16001 count(0)=0");
    b.fresh();
    b.feed("#".repeat(1000));
    b.due("count(11)=1000 army()=1 count(11)=0 army()=0");
    b.feed("heed 1;");
    b.due("count(11)=7 army()=0 count(11)=0");
    b.feed("#");
    b.due("war()=1 count(11)=0");
    b.feed("draw 1;");
    b.due("war()=0 count(11)=0 count(7)=1 war()=0 count(7)=0");
    b.feed("heed");
    b.due("count(11)=4 army()=65");
    b.feed("1;");
    b.due("count(11)=2 army()=1");
    b.feed(" ".repeat(1000));
    b.due("count(11)=1000");
  }

  private void words() {
    b.holds(Document.TERMS, "TOKENS, each as long as can be, blanks (10, 32) between where one likes: WORDS (letters a .. z, 8 at most),");
    b.fresh("post a foot weighs 1;");
    b.fresh("post z foot weighs 1;");
    b.fresh("post abcdefgh foot weighs 1; post zzzzzzzz foot weighs 1;");
    b.due("count(0)=2");
    b.fresh("post abcdefgh foot weighs 1; post abcdefgi foot weighs 1 under abcdefgh; post abcdefg foot weighs 1 under abcdefgi;");
    b.due("post(1,2)=0 post(2,2)=1");
    b.fresh();
    b.armyFault(1, "post ^abcdefghi foot weighs 1;");
    b.armyFault(1, "post ^" + "z".repeat(995));
    b.armyFault(1, "post ^` foot");
    b.armyFault(1, "post a^{");
    b.armyFault(1, "post a^`");
    b.armyFault(1, "^Post");
    b.armyFault(1, "^pos t");
    b.armyFault(1, "^posta foot weighs 1;");
    b.armyFault(1, "^postpost");
    b.armyFault(1, "post a ^fo ot weighs 1;");
    b.armyFault(1, "post a^1 foot weighs 1;");
    b.fresh("\n\n  post\n\na  \n foot\nweighs\n \n1\n;\n  \n");
    b.due("count(0)=1");
    b.fresh("post a foot weighs 1;man m brave 1wit 2coins 3;heed4;front 9at 8;skill(1);goes(what)-1;worth not(1)or 0;");
    b.due("man(0,1)=2 man(0,2)=3 count(2)=9 count(3)=8 skill(0,0)=1");
  }

  private void numbers() {
    b.holds(Document.TERMS, "NUMBERS (1 to 4 digits; a letter may stand right behind), the signs ( ) < = + - * ;");
    b.fresh("theirs 0;");
    b.fresh("theirs 9;");
    b.fresh("theirs 0999;");
    b.fresh("post q foot weighs 0002; post a foot weighs 2under q;");
    b.due("post(0,1)=2 post(1,1)=2 post(1,2)=0");
    b.fresh("man m brave 0009 wit 0000 coins 0999;");
    b.due("man(0,0)=9 man(0,1)=0 man(0,2)=999");
    b.fresh();
    b.armyFault(1, "theirs ^00000;");
    b.armyFault(1, "theirs ^00999;");
    b.armyFault(1, "theirs ^12345");
    b.armyFault(1, "theirs ^4294967297;");
    b.armyFault(1, "theirs ^18446744073709551617;");
    b.armyFault(1, "theirs ^" + "1".repeat(990));
    b.armyFault(1, "theirs ^;");
    b.armyFault(1, "theirs ^/");
    b.armyFault(1, "theirs 1^:");
    b.armyFault(1, "theirs 12 ^3;");
    b.armyFault(1, "theirs ^-1;");
    b.armyFault(1, "theirs 1^x;");
    b.armyFault(4, "theirs ^1000;");
    b.armyFault(4, "heed ^123;");
    b.fresh("post p mule weighs 5; man m brave 3 wit 2 coins 0; skill ( 20 ) * 2 - 3 + 1 ; worth 1 < 2 ; goes 1 = 1 ;");
    b.due("skill(0,0)=38");
    b.fresh("skill 9999;");
    b.fresh();
    b.armyFault(1, "skill ^10000;");
    for (int i = 0; i < SIGNS.length(); i++) b.armyFault(1, "^" + SIGNS.charAt(i));
    for (int i = 0; i < SIGNS.length(); i++) b.armyFault(1, "heed ^" + SIGNS.charAt(i));
  }

  private void noTokens() {
    b.holds(Document.TERMS, "All else (a longer WORD or NUMBER, too, at its first sign) is none.");
    for (char sign = 33; sign <= 126; sign++) {
      if (sign >= 'a' && sign <= 'z' || sign >= '0' && sign <= '9' || SIGNS.indexOf(sign) >= 0) continue;
      b.armyFault(1, "^" + sign);
      b.armyFault(1, "post ^" + sign);
      b.armyFault(1, "heed ^" + sign + "1;");
      b.armyFault(1, "heed 1^" + sign + ";");
      b.armyFault(1, "skill 1 ^" + sign + " 1;");
      b.warFault(1, "^" + sign + "draw 1;");
      b.warFault(1, "draw ^" + sign + "1;");
    }
    b.armyFault(1, "  ^abcdefghi");
    b.armyFault(1, "post a foot weighs  ^12345;");
    b.armyFault(1, "skill 1 + ^12345678;");
    b.armyFault(1, "skill ^courages;");
    b.armyFault(1, "skill ^couragess;");
    b.warFault(1, "weeks ^00001;");
    b.warFault(1, "^drawdrawd 1;");
    b.warFault(1, "order ^holdholdh;");
  }

  /** A line, its tokens between blanks: cut behind each of them, and with each of them spoiled. */
  private void eachToken(String ahead, String line, boolean isWar) {
    String[] tokens = line.split(" ");
    StringBuilder begin = new StringBuilder(ahead);
    for (int i = 0; i < tokens.length; i++) {
      StringBuilder spoiled = new StringBuilder(begin).append("^#");
      for (int j = i + 1; j < tokens.length; j++) spoiled.append(' ').append(tokens[j]);
      fault(isWar, 1, spoiled.toString());
      fault(isWar, 1, begin + "^##");
      if (i > 0) fault(isWar, 1, begin + "^");
      if (i > 0) fault(isWar, 1, begin + "\n \n^");
      begin.append(tokens[i]).append(' ');
    }
    b.fresh(isWar ? Samples.ARMY : begin.toString());
    if (isWar) b.war(begin.toString());
    b.fresh(isWar ? Samples.ARMY : "");
    fault(isWar, 1, begin + "^;");
  }

  private void fault(boolean isWar, int kind, String text) {
    if (isWar) b.warFault(kind, text);
    else b.armyFault(kind, text);
  }

  private void linesOfAnArmy() {
    b.holds(Document.TERMS, "ARMY: any number of post NAME KIND weighs N UNDER ; man NAME brave N wit N coins N ; front N at N ;"
        + " theirs N ; quarter N ; heed N ; skill E ; worth E ; goes E ;");
    b.fresh("");
    String[] lines = {"post a foot weighs 1 ;", "man m brave 1 wit 1 coins 1 ;", "front 9 at 4 ;", "theirs 1 ;", "quarter 1 ;", "heed 1 ;",
      "skill 1 ;", "worth 1 ;", "goes 1 ;", "goes ( 1 + 2 ) * not 3 ;"};
    for (String line : lines) eachToken("", line, false);
    eachToken("post p foot weighs 1; ", "post a foot weighs 1 under p ;", false);
    b.fresh("goes 1; worth 1; skill 7; heed 1; quarter 1; theirs 1; front 9 at 4; man m brave 1 wit 1 coins 1; post a foot weighs 1;"
        + "man n brave 2 wit 1 coins 1; post b foot weighs 1;");
    b.due("count(0)=2 count(1)=2 skill(0,0)=7 post(1,3)=1");
    b.fresh();
    for (String word : new String[] {"draw 1;", "sell m n 1;", "order hold;", "weeks 1;", "hold;", "foot;", "at 1;", "under a;", "not 1;", "army"}) {
      b.armyFault(1, "^" + word);
      b.armyFault(1, "heed 1; ^" + word);
    }
  }

  private void posts() {
    b.holds(Document.TERMS, "post: 6 at most, numbered as told; KIND: foot, horse, mule, foe; weighs 1 to 9; UNDER is nothing or under NAME (a POST told).");
    b.fresh(Samples.posts(6));
    b.due("count(0)=6 post(0,1)=1 post(1,1)=2 post(2,1)=3 post(3,1)=4 post(4,1)=5 post(5,1)=6 post(6,1)=none");
    b.fresh();
    b.armyFault(5, Samples.posts(6) + "^post g foot weighs 1;");
    b.armyFault(5, Samples.posts(6) + Samples.men(6) + "^post");
    String[] kinds = {"foot", "horse", "mule", "foe"};
    for (int i = 0; i < 4; i++) {
      b.fresh("post a " + kinds[i] + " weighs 1;");
      b.due("post(0,0)=" + i);
    }
    b.armyEdge("post a foot weighs 1;", 4, "post a foot weighs ^0;");
    b.due("post(0,1)=none");
    b.armyEdge("post a foot weighs 9;", 4, "post a foot weighs ^10;");
    b.armyFault(4, "post a foot weighs ^9999;");
    for (String word : new String[] {"foots", "foo", "a", "hold", "not", "kind", "1"}) b.armyFault(1, "post a ^" + word + " weighs 1;");
    b.fresh("post a foot weighs 1; post b foot weighs 1 under a; post c foot weighs 1 under a; post d foot weighs 1 under c; post e foot weighs 1;"
        + " post f foot weighs 1 under e;");
    b.due("post(0,2)=none post(1,2)=0 post(2,2)=0 post(3,2)=2 post(4,2)=none post(5,2)=4");
    b.fresh();
    b.armyFault(2, "post a foot weighs 1 under ^a;");
    b.armyFault(2, "post a foot weighs 1 under ^b; post b foot weighs 1;");
    b.armyFault(2, "man m brave 1 wit 1 coins 1; post a foot weighs 1 under ^m;");
    b.armyFault(1, "post a foot weighs 1; post b foot weighs 1 under ^;");
    b.armyFault(1, "post a foot weighs 1; post b foot weighs 1 under^");
    b.armyFault(1, "post a foot weighs 1; post b foot weighs 1 under a ^under a;");
    b.armyFault(1, "post a foot weighs 1; post b foot weighs 1 under a ^a;");
    b.armyFault(1, "post a foot weighs 1; post b foot weighs 1 ^a;");
  }

  private void men() {
    b.holds(Document.TERMS, "man: 6 at most, numbered as told; brave, wit 0 to 9, coins 0 to 999.");
    b.fresh(Samples.men(6));
    b.due("count(1)=6 man(0,0)=1 man(1,0)=2 man(2,0)=3 man(3,0)=4 man(4,0)=5 man(5,0)=6 man(6,0)=none count(6)=21");
    b.fresh();
    b.armyFault(5, Samples.men(6) + "^man g brave 1 wit 1 coins 1;");
    b.armyFault(5, Samples.men(6) + Samples.posts(6) + "^man");
    b.armyEdge("man m brave 0 wit 0 coins 0;", 1, "man m brave ^-1");
    b.armyEdge("man m brave 9 wit 9 coins 999;", 4, "man m brave ^10 wit 9 coins 999;");
    b.armyFault(4, "man m brave 9 wit ^10 coins 999;");
    b.armyFault(4, "man m brave 9 wit 9 coins ^1000;");
    b.armyFault(4, "man m brave 9 wit 9 coins ^9999;");
    b.armyFault(4, "man m brave ^9999;");
    b.armyFault(1, "man m ^wit 1 brave 1 coins 1;");
    b.fresh("man m brave 0 wit 9 coins 0; man n brave 9 wit 0 coins 999;");
    b.due("man(0,0)=0 man(0,1)=9 man(0,2)=0 man(1,0)=9 man(1,1)=0 man(1,2)=999");
  }

  private void front() {
    b.holds(Document.TERMS, "front: cells 4 to 40 (10), it lies at 1 to these less 1 (5).");
    b.due("count(2)=10 count(3)=5");
    b.armyEdge("front 4 at 1;", 4, "front ^3 at 1;");
    b.armyEdge("front 40 at 1;", 4, "front ^41 at 1;");
    b.armyFault(4, "front ^0 at 1;");
    b.armyFault(4, "front ^9999 at 1;");
    b.armyEdge("front 4 at 3;", 4, "front 4 at ^4;");
    b.armyEdge("front 40 at 39;", 4, "front 40 at ^40;");
    b.armyEdge("front 10 at 1;", 4, "front 10 at ^0;");
    b.armyFault(4, "front 10 at ^9999;");
    b.armyFault(1, "front 10^;");
    b.armyFault(1, "front 10 ^5;");
    b.fresh("front 4 at 3;");
    b.due("count(2)=4 count(3)=3");
    b.fresh("front 40 at 39;");
    b.due("count(2)=40 count(3)=39");
    b.army("");
    b.due("count(2)=10 count(3)=5");
  }

  private void theirs() {
    b.holds(Document.TERMS, "theirs 0 to 999 (20).");
    String strong = "post a foot weighs 1; man m brave 0 wit 0 coins 0; front 10 at 5; ";
    // 20 are not told: push goes on by 21, stays by 20, goes back by 19
    for (int ours = 19; ours <= 21; ours++) {
      b.fresh(strong + "skill " + ours + ";");
      b.due("order(1)=yes weeks(1)=1 count(3)=" + (5 + ours - 20));
    }
    b.armyEdge("theirs 0;", 1, "theirs ^-1;");
    b.armyEdge("theirs 999;", 4, "theirs ^1000;");
    b.armyFault(4, "theirs ^9999;");
    b.fresh(strong + "theirs 0; skill 0;");
    b.due("order(1)=yes weeks(1)=1 count(3)=5");
    b.fresh(strong + "theirs 0; skill 1;");
    b.due("order(1)=yes weeks(1)=1 count(3)=6");
    for (int against = 998; against <= 999; against++) {
      b.fresh(strong + "theirs " + against + "; goes against - 997;");
      b.due("weeks(1)=1 count(3)=" + (5 + against - 997));
    }
    b.army(strong + "goes against - 19;");
    b.due("weeks(1)=1 count(3)=6");
  }

  private void quarter() {
    b.holds(Document.TERMS, "quarter: weeks 1 to 13 (13).");
    b.fresh("goes 0;");
    b.due("weeks(12)=12 count(12)=0 weeks(13)=1 count(12)=1 weeks(1)=none");
    b.armyEdge("quarter 1;", 4, "quarter ^0;");
    b.armyEdge("quarter 13;", 4, "quarter ^14;");
    b.armyFault(4, "quarter ^9999;");
    b.fresh("quarter 1; goes 0;");
    b.due("count(12)=0 weeks(13)=1 count(12)=1 weeks(1)=none draw(0)=yes weeks(13)=1 count(12)=1 count(4)=2");
    b.fresh("quarter 13; goes 0;");
    b.due("weeks(13)=13 count(12)=1 weeks(1)=none");
    b.army("goes 0;");
    b.due("weeks(12)=12 weeks(13)=1");
  }

  private void heed() {
    b.holds(Document.TERMS, "heed 0 to 99 (3).");
    String two = "post a foot weighs 1; post b foot weighs 1 under a; man m brave 0 wit 0 coins 0; man n brave 0 wit 0 coins 0; ";
    b.fresh(two + "skill 3;");
    b.due("post(1,4)=1 ours()=6");
    b.fresh(two + "skill 2;");
    b.due("post(1,4)=0 ours()=2");
    b.armyEdge("heed 0;", 1, "heed ^-1;");
    b.armyEdge("heed 99;", 4, "heed ^100;");
    b.armyFault(4, "heed ^9999;");
    b.fresh(two + "heed 0; skill 0;");
    b.due("post(1,4)=1");
    b.fresh(two + "heed 1; skill 0;");
    b.due("post(1,4)=0");
    b.fresh(two + "heed 99; skill 99;");
    b.due("post(1,4)=1 ours()=198");
    b.fresh(two + "heed 99; skill 98;");
    b.due("post(1,4)=0 ours()=98");
  }

  private void onceEach() {
    b.holds(Document.TERMS, "All but post, man once each.");
    String[] lines = {"front 9 at 4;", "theirs 1;", "quarter 1;", "heed 1;", "skill 1;", "worth 1;", "goes 1;"};
    for (String line : lines) {
      String word = line.substring(0, line.indexOf(' '));
      b.armyFault(3, line + "^" + line);
      b.armyFault(3, line + " post a foot weighs 1; man m brave 1 wit 1 coins 1; ^" + word);
      b.armyFault(3, line + "^" + word + " #");
      b.fresh(line);
      b.army(line);
      b.fresh();
    }
    b.fresh(String.join(" ", lines) + "post a foot weighs 1; post b foot weighs 1; man m brave 1 wit 1 coins 1; man n brave 1 wit 1 coins 1;");
    b.due("count(0)=2 count(1)=2");
    b.fresh();
    b.armyFault(3, String.join("", lines) + "^goes 1;");
    b.armyFault(3, String.join("", lines) + "^front 9 at 4;");
  }

  private void linesOfAWar() {
    b.holds(Document.TERMS, "WAR: any number of draw N ; sell NAME NAME N ; order ORDER ; weeks N ; (a SEED 0 to 9999; MEN, 0 to 999 coins;"
        + " hold, push, yield; 1 to 13), 24 lines at most.");
    b.fresh(Samples.ARMY);
    for (String line : new String[] {"draw 1 ;", "sell x y 1 ;", "order hold ;", "weeks 1 ;"}) eachToken("", line, true);
    b.fresh(Samples.ARMY);
    b.war("");
    b.war("draw 0; draw 9999; draw 0000; sell x y 0; sell v x 999; order hold; order push; order yield; weeks 1; weeks 13; weeks 0013;");
    b.due("count(7)=11");
    b.warFault(1, "draw ^-1;");
    b.warFault(1, "draw ^10000;");
    b.warFault(1, "draw ^x;");
    b.warFault(1, "sell x y ^-1;");
    b.warFault(4, "sell x y ^1000;");
    b.warFault(4, "sell x y ^9999;");
    b.warFault(1, "sell x ^1;");
    b.warFault(1, "sell ^1;");
    b.warFault(1, "sell x y ^z;");
    b.warFault(1, "order ^0;");
    b.warFault(1, "order ^run;");
    b.warFault(1, "order ^foot;");
    b.warFault(1, "order hold ^push;");
    b.warFault(4, "weeks ^0;");
    b.warFault(4, "weeks ^14;");
    b.warFault(4, "weeks ^9999;");
    b.warFault(1, "^hold;");
    for (String word : new String[] {"post", "man", "front", "theirs", "quarter", "heed", "skill", "worth", "goes"}) b.warFault(1, "^" + word + " 1;");
    b.war("draw 1;".repeat(23));
    b.due("count(7)=23");
    b.war("weeks 1;".repeat(24));
    b.due("count(7)=24");
    b.warFault(5, "draw 1;".repeat(24) + "^draw 1;");
    for (String word : new String[] {"sell", "order", "weeks"}) b.warFault(5, "draw 1;".repeat(24) + "^" + word);
    b.warFault(5, "sell x y 999; order hold; weeks 1;".repeat(8) + "^draw 1;");
    b.warFault(1, "draw 1;".repeat(24) + "^hold");
    b.warFault(1, "draw 1;".repeat(23) + "draw 1^");
    b.due("count(7)=24");
  }

  private void names() {
    b.holds(Document.TERMS, "A NAME is another WORD than post, weighs, under, man, brave, wit, coins, front, at, theirs, quarter, heed, skill,"
        + " worth, goes, draw, sell, order, weeks, hold, push, yield, the KINDS, not, and, or; no two (POSTS, MEN) are alike.");
    b.fresh(Samples.ARMY);
    for (String word : KEPT) {
      b.armyFault(1, "post ^" + word + " foot weighs 1;");
      b.armyFault(1, "man ^" + word + " brave 1 wit 1 coins 1;");
      b.armyFault(1, "post p foot weighs 1; post q foot weighs 1 under ^" + word + ";");
      b.warFault(1, "sell ^" + word + " x 1;");
      b.warFault(1, "sell x ^" + word + " 1;");
    }
    for (String word : FACTS) {
      b.fresh("post " + word + " foot weighs 1; post p foot weighs 1 under " + word + ";");
      b.due("post(1,2)=0");
      b.fresh("man " + word + " brave 1 wit 1 coins 1; man n brave 1 wit 1 coins 1;");
      b.war("sell " + word + " n 1; sell n " + word + " 1;");
    }
    // as near as can be to words that are kept
    for (String word : KEPT) {
      b.fresh("post " + word + "s foot weighs 1; man " + word.substring(0, word.length() - 1) + "q brave 1 wit 1 coins 1;");
      b.due("count(0)=1 count(1)=1");
    }
    b.fresh();
    b.armyFault(1, "post ^1 foot weighs 1;");
    b.armyFault(1, "post ^; foot weighs 1;");
    b.armyFault(3, "post a foot weighs 1; post ^a");
    b.armyFault(3, "post a foot weighs 1; man ^a");
    b.armyFault(3, "man a brave 1 wit 1 coins 1; post ^a");
    b.armyFault(3, "man a brave 1 wit 1 coins 1; man ^a");
    b.armyFault(3, "post abcdefgh foot weighs 1; man ^abcdefgh");
    b.armyFault(3, Samples.posts(6) + Samples.men(5) + "man ^pf");
    b.armyFault(3, Samples.men(6) + Samples.posts(5) + "post ^mf");
    b.fresh("post a foot weighs 1; post aa foot weighs 1; man aaa brave 1 wit 1 coins 1; man aaaaaaaa brave 1 wit 1 coins 1;");
    b.due("count(0)=2 count(1)=2");
    // names of the ARMY ahead, and of one that was none, are free again
    b.army("man a brave 1 wit 1 coins 1; post aaa foot weighs 1;");
    b.feed("post q foot weighs 1; #");
    b.due("army()=353");
    b.army("post q foot weighs 1;");
  }

  /** The SKILL of a MAN, courage 3 and sense 2, at a mule that weighs 5, by an E. */
  private void skillBy(String law, int due) {
    b.fresh("post p mule weighs 5; man m brave 3 wit 2 coins 0; skill " + law + ";");
    b.due("skill(0,0)=" + due);
  }

  private void laws() {
    b.holds(Document.TERMS, "E: TEST { and TEST or or TEST }, from the left; TEST: SUM, or SUM < SUM, or SUM = SUM; SUM: PRODUCT { + or - PRODUCT };"
        + " PRODUCT: PART { * PART }; PART: a NUMBER, a fact, not PART, ( E );");
    skillBy("1 or 0 and 0", 0);
    skillBy("0 and 0 or 1", 1);
    skillBy("1 or (0 and 0)", 1);
    skillBy("1 < 2 and 2 < 3", 1);
    skillBy("1 < 1", 0);
    skillBy("3 - 2 - 1 + 9", 9);
    skillBy("30 - (2 - 1)", 29);
    skillBy("2 + 3 * 4 - 5 * 2", 4);
    skillBy("(2 + 3) * 4", 20);
    skillBy("not 0 * 7", 7);
    skillBy("not (0 * 7)", 1);
    skillBy("not 1 + 8", 8);
    skillBy("not not 8", 1);
    skillBy("1 + 1 < 1 + 2 and 6 = 2 * 3", 1);
    skillBy("(1 < 2) < 3", 1);
    skillBy("7", 7);
    skillBy("((7))", 7);
    b.fresh();
    b.armyFault(1, "skill 1 < 2 ^< 3;");
    b.armyFault(1, "skill 1 = 2 ^= 3;");
    b.armyFault(1, "skill 1 < 2 ^= 3;");
    b.armyFault(1, "skill 1 + ^+ 1;");
    b.armyFault(1, "skill ^- 1;");
    b.armyFault(1, "skill ^* 1;");
    b.armyFault(1, "skill 1 * ^;");
    b.armyFault(1, "skill 1 - ^;");
    b.armyFault(1, "skill 1 < ^;");
    b.armyFault(1, "skill 1 and ^;");
    b.armyFault(1, "skill 1 or ^and 1;");
    b.armyFault(1, "skill ^and 1;");
    b.armyFault(1, "skill not ^;");
    b.armyFault(1, "skill 1 ^not 1;");
    b.armyFault(1, "skill 1 ^1;");
    b.armyFault(1, "skill (^) ;");
    b.armyFault(1, "skill (1 ^;");
    b.armyFault(1, "skill (1^");
    b.armyFault(1, "skill 1 ^);");
    b.armyFault(1, "skill (1)^);");
    b.armyFault(1, "skill (1 ^(2));");
    b.armyFault(1, "skill ^;");
    b.armyFault(1, "skill^");
    b.armyFault(1, "goes ^post;");
    // as long as there is room for: 400 parts, then as much as the TAPE holds
    String line = "post p mule weighs 5;man m brave 3wit 2coins 0;skill 7";
    b.fresh(line + "+1-1".repeat(100) + "+1;");
    b.due("skill(0,0)=8");
    int room = (1000 - line.length() - 1) / 2;
    b.fresh(line + "+0".repeat(room - 1) + "+2" + " ".repeat(1000 - line.length() - 1 - 2 * room) + ";");
    b.due("skill(0,0)=9");
    b.fresh();
    b.armyFault(1, line + "+0".repeat(room) + " ".repeat(1000 - line.length() - 2 * room) + "^");
    // four times as long as can be, good and wrong, on one object
    b.fresh();
    for (int i = 0; i < 4; i++) {
      b.feed(line + "+0".repeat(room - 1) + "+" + (i % 2 == 0 ? "2" : "3") + " ".repeat(1000 - line.length() - 1 - 2 * room) + ";");
      b.due("army()=0 skill(0,0)=" + (i % 2 == 0 ? 9 : 10));
      b.feed(line + "+0".repeat(room - 1) + "++");
      b.due("army()=" + (1 + 16 * (line.length() + 2 * room - 1)) + " skill(0,0)=" + (i % 2 == 0 ? 9 : 10));
    }
    int pairs = (1000 - line.length() - 1) / 8;
    b.fresh(line + " or 0*0".repeat(pairs) + ";");
    b.due("skill(0,0)=1");
  }

  private void withinFive() {
    b.holds(Document.TERMS, "no PART lies within 5 of not and ( ).");
    skillBy("((((7))))", 7);
    skillBy("not not not not 7", 1);
    skillBy("not (not (0))", 0);
    skillBy("not(not(7))", 1);
    skillBy("(not(not courage))", 1);
    skillBy("((((1))))+((((2))))*((((3))))+not not not not 4", 8);
    // at each level an or, a test, a sum and a product stand open
    String open = "0 or 5 - 3 = 1 + 1 * ";
    skillBy(open + "(" + open + "(" + open + "(" + open + "(" + open + "1))))", 1);
    skillBy(open + "(" + open + "(" + open + "(" + open + "(" + open + "2))))", 0);
    b.fresh();
    b.armyFault(5, "skill (((((^7)))));");
    b.armyFault(5, "skill (((((^courage)))));");
    b.armyFault(5, "skill (((((^(7))))));");
    b.armyFault(5, "skill (((((^not 7)))));");
    b.armyFault(5, "skill not not not not not ^7;");
    b.armyFault(5, "skill not not not not not ^not 7;");
    b.armyFault(5, "skill not not not not not ^(7);");
    b.armyFault(5, "skill not(not(not ^7));");
    b.armyFault(5, "skill (not(not(^7)));");
    b.armyFault(5, "skill ((((1)))) + (((( 2 * (^3)))));");
    b.armyFault(5, "goes (((((^ours)))));");
    b.armyFault(5, "worth not (((not ^load)));");
    b.armyFault(1, "skill (((((^ours)))));");
    b.armyFault(1, "skill (((((^)))))");
    b.armyFault(1, "skill (((((^");
    b.armyFault(1, "skill (((((^10000)))))");
  }

  private void facts() {
    b.holds(Document.TERMS, "Facts: of skill, worth courage, sense (the MAN's), load (what the POST weighs), kind (0 foot, 1 horse, 2 mule, 3 foe);"
        + " of goes ours, against (their strength), what (the order: 0 hold, 1 push, 2 yield).");
    String[] kinds = {"foot", "horse", "mule", "foe"};
    for (int i = 0; i < 4; i++) {
      b.fresh("post a " + kinds[i] + " weighs 1; man m brave 0 wit 9 coins 5; skill 10 + kind;");
      b.due("skill(0,0)=" + (10 + i));
    }
    for (int least = 0; least <= 9; least += 9) {
      b.fresh("post a foot weighs " + Math.max(1, least) + "; man m brave " + least + " wit " + (9 - least) + " coins 5; skill courage + 10 * sense;");
      b.due("skill(0,0)=" + (least + 10 * (9 - least)));
      b.army("post a foot weighs " + Math.max(1, least) + "; man m brave 5 wit 5 coins 5; skill load;");
      b.due("skill(0,0)=" + Math.max(1, least));
    }
    // worth: the second POST is liked by its MAN alone if his is less
    b.fresh("post a foot weighs 9; post b mule weighs 1; man m brave 0 wit 9 coins 0; man n brave 9 wit 0 coins 0; worth kind * courage + load * sense;");
    b.due("swaps(0)=0 swaps(1)=1");
    b.army("post a mule weighs 1; post b foot weighs 9; man m brave 0 wit 9 coins 0; man n brave 9 wit 0 coins 0; worth kind * courage + load * sense;");
    b.due("swaps(0)=1 swaps(1)=0");
    b.fresh(Samples.strong(2) + "theirs 3; front 20 at 10; goes what;");
    b.due("weeks(1)=1 count(3)=10 order(1)=yes weeks(1)=1 count(3)=11 order(2)=yes weeks(1)=1 count(3)=13");
    b.army(Samples.strong(2) + "theirs 3; front 20 at 10; goes ours;");
    b.due("weeks(1)=1 count(3)=12");
    b.army(Samples.strong(2) + "theirs 3; front 20 at 10; goes against;");
    b.due("weeks(1)=1 count(3)=13");
    b.fresh();
    for (String fact : new String[] {"ours", "against", "what"}) {
      b.armyFault(1, "skill ^" + fact + ";");
      b.armyFault(1, "worth ^" + fact + ";");
    }
    for (String fact : new String[] {"courage", "sense", "load", "kind"}) b.armyFault(1, "goes ^" + fact + ";");
    for (String word : new String[] {"brave", "wit", "coins", "weighs", "m", "foot", "hold", "theirs", "front"}) {
      b.armyFault(1, "skill ^" + word + ";");
      b.armyFault(1, "goes ^" + word + ";");
    }
  }

  private void truth() {
    b.holds(Document.TERMS, "Of not, and, or, < and = comes 1 or 0; what is not 0 is so;");
    skillBy("not 0", 1);
    skillBy("not 1", 0);
    skillBy("not 9999", 0);
    skillBy("not (0 - 1)", 0);
    skillBy("7 and 9", 1);
    skillBy("7 and 0", 0);
    skillBy("0 and 7", 0);
    skillBy("(0 - 1) and (0 - 2)", 1);
    skillBy("0 or 0", 0);
    skillBy("0 or 9", 1);
    skillBy("9 or 0", 1);
    skillBy("9 or 9", 1);
    skillBy("0 or (0 - 1)", 1);
    skillBy("1 < 2", 1);
    skillBy("2 < 2", 0);
    skillBy("3 < 2", 0);
    skillBy("0 - 1 < 0", 1);
    skillBy("0 < 0 - 1", 0);
    skillBy("2 = 2", 1);
    skillBy("2 = 3", 0);
    skillBy("0 = 0", 1);
    skillBy("9 and 9 = 9", 1);
    skillBy("2 and 4", 1);
  }

  private void wrapping() {
    b.holds(Document.TERMS, "ints wrap.");
    String most = "(46 * 1000 + 340) * (46 * 1000 + 340) + 8804 * 10 + 7";
    skillBy("(" + most + ") < 0", 0);
    skillBy("(" + most + ") + 1 < 0", 1);
    skillBy("0 - (" + most + ") - 1 < 0", 1);
    skillBy("0 - (" + most + ") - 2 < 0", 0);
    skillBy("0 - (" + most + ") - 2 = " + most, 1);
    skillBy("(" + most + ") + 1", 0);
    skillBy("0 - (" + most + ") - 2", 99);
    skillBy("(" + most + ") * 2 = 0 - 2", 1);
    skillBy("256 * 256 * 256 * 256", 0);
    skillBy("not (256 * 256 * 256 * 256)", 1);
    skillBy("256 * 256 * 256 * 256 + 5", 5);
    skillBy("256 * 256 * 256 * 128 < 0", 1);
    skillBy("(46 * 1000 + 341) * (46 * 1000 + 341) < 0", 1);
    skillBy("(46 * 1000 + 340) * (46 * 1000 + 340) < 0", 0);
    skillBy("9999 * 9999 * 9999 * 9999 - " + "9999 * 9999 * 9999 * 9999", 0);
  }

  private void withoutLaws() {
    b.holds(Document.TERMS, "Without skill: courage, of a horse sense; without worth: load; without goes: yield -1; push 1 if ours is more, -1 if less, else 0;"
        + " hold -1 if twice ours is less, else 0.");
    b.fresh("post a foot weighs 1; post b horse weighs 1; post c mule weighs 1; post d foe weighs 1; man m brave 9 wit 0 coins 0; man n brave 0 wit 9 coins 0;");
    b.due("skill(0,0)=9 skill(0,1)=0 skill(0,2)=9 skill(0,3)=9 skill(1,0)=0 skill(1,1)=9 skill(1,2)=0 skill(1,3)=0");
    b.army("post a foot weighs 8; post b foot weighs 9; man m brave 1 wit 0 coins 0; man n brave 1 wit 0 coins 0;");
    b.due("swaps(0)=0 swaps(1)=1");
    b.army("post a foot weighs 8; post b foe weighs 9; post c mule weighs 1; man m brave 9 wit 0 coins 0; man n brave 1 wit 0 coins 0; man o brave 1 wit 0 coins 0;");
    b.due("sell(1,2,0)=yes swaps(0)=0 swaps(1)=2 swaps(2)=1");
    int[][] byTheirs = {{4, 0, 1}, {5, 0, 0}, {6, 0, -1}, {9, 0, -1}, {10, 0, -1}, {11, -1, -1}};
    for (int[] row : byTheirs) {
      b.fresh(Samples.strong(5) + "theirs " + row[0] + ";");
      b.due("weeks(1)=1 count(3)=" + (5 + row[1]));
      b.due("undo()=yes order(1)=yes weeks(1)=1 count(3)=" + (5 + row[2]));
      b.due("undo()=yes order(2)=yes weeks(1)=1 count(3)=4");
    }
    b.fresh("theirs 0;");
    b.due("weeks(1)=1 count(3)=5 order(1)=yes weeks(1)=1 count(3)=5 order(2)=yes weeks(1)=1 count(3)=4");
    b.fresh("theirs 1;");
    b.due("weeks(1)=1 count(3)=4 order(1)=yes weeks(1)=1 count(3)=3");
  }

  private void faults() {
    b.holds(Document.TERMS, "FAULTS, kind + 16 * the place (from 0) of a token, the end being one at the text's length:"
        + " of the first token from the left that is wrong the least:");
    b.armyFault(1, "^x");
    b.armyFault(1, " ^x");
    b.armyFault(1, "\n^x");
    b.armyFault(1, " ".repeat(999) + "^x");
    b.armyFault(1, "post^");
    b.armyFault(1, "post ^");
    b.armyFault(1, "post  \n \n^");
    b.armyFault(1, "heed" + " ".repeat(996) + "^");
    b.warFault(1, "draw" + " ".repeat(996) + "^");
    b.armyFault(1, "\n\n post a foot weighs 1;\n\n  ^# #");
    // the first of two
    b.armyFault(4, "post a foot weighs ^0 under b; #");
    b.armyFault(2, "post a foot weighs 1 under ^b; heed 100;");
    b.armyFault(4, "man m brave ^10 wit 10 coins 1000;");
    b.warFault(4, "weeks ^0; weeks 14; #");
    // a token that is wrong by more than one kind
    b.fresh(Samples.ARMY);
    b.warFault(1, "draw 1;".repeat(24) + "^post");
    b.warFault(1, "draw 1;".repeat(24) + "^#");
    b.warFault(1, "draw 1;".repeat(24) + "^1");
    b.warFault(2, "sell ^q q 1;");
    b.warFault(2, "sell x ^q 1;");
    b.warFault(3, "sell x ^x 1;");
    b.armyFault(1, "skill (((((^against)))));");
    b.armyFault(1, "skill (((((^+)))));");
    b.armyFault(1, "skill not not not not not ^and;");
    b.armyFault(2, "man q brave 1 wit 1 coins 1; post r foot weighs 1 under ^q;");
    b.armyFault(5, Samples.posts(6) + "^post pa");
    b.armyFault(5, Samples.men(6) + "^man ma");
  }

  private void faultsByKind() {
    b.holds(Document.TERMS, "1 it is none, or can't stand there; 2 a NAME of no POST (behind under), of no MAN (behind sell) told;"
        + " 3 a NAME told already, the second NAME of sell that is the first one; a line told a second time (at its word; not post, man);"
        + " 4 a NUMBER that is not as told; 5 one too many: the words post, man of a seventh, the first word of a 25th line of a WAR;"
        + " not, or a PART, within 5 others.");
    Samples.busy(b);
    b.armyFault(1, "^;");
    b.armyFault(1, "heed 1;^;");
    b.armyFault(1, "heed 1 ^heed 2;");
    b.armyFault(2, "post q foot weighs 1 under ^a;");
    b.armyFault(2, "post q foot weighs 1; post r foot weighs 1 under ^qq;");
    b.warFault(2, "sell ^a x 1;");
    b.warFault(2, "sell x ^a 1;");
    b.warFault(2, "sell ^xx y 1;");
    b.warFault(3, "sell v ^v 1;");
    b.armyFault(3, "post q foot weighs 1; post ^q foot weighs 1;");
    b.armyFault(3, "heed 1; ^heed 100;");
    b.armyFault(4, "post q foot weighs 1; front 5 at ^5;");
    b.armyFault(4, "heed ^0100;");
    b.armyFault(5, Samples.posts(6) + "heed 1;^post");
    b.armyFault(5, Samples.men(6) + "heed 1;^man");
    b.warFault(5, "draw 0;".repeat(24) + "^weeks 0;");
    b.armyFault(5, "worth ((not(not ^(1))));");
    b.army("");
    b.warFault(2, "sell ^x y 1;");
  }

  private void anArmyFromThenOn() {
    b.holds(Document.TERMS, "Without a FAULT an ARMY is the ARMY from then on: week 0, the i-th MAN has the i-th POST (as long as there are both),"
        + " hold is ordered, the front where told, coins as told, no WAR, nothing SEEN, no ticket TOLD, nothing can be undone, no MARK is there.");
    String[] armies = {"", "front 9 at 8;", Samples.posts(6) + Samples.men(6), Samples.posts(6) + Samples.men(1), Samples.posts(1) + Samples.men(6),
      Samples.posts(6), Samples.men(6), Samples.ARMY, Samples.strong(3) + "skill 7; worth 0 - load; goes 3; heed 0; quarter 1; theirs 999;"};
    for (String army : armies) {
      Samples.busy(b);
      b.army(army);
      b.due("count(4)=0 count(5)=0 count(7)=0 count(8)=0 count(9)=0 count(10)=0 count(11)=0 count(12)=0");
      b.isAsNewWith(army);
      b.due("undo()=no mark(0,back)=no mark(1,back)=no mark(2,back)=no mark(3,back)=no");
    }
    // as much as an ARMY can tell, twice, leaves nothing behind in one that tells less
    for (String army : armies) {
      b.fresh();
      for (int i = 0; i < 2; i++) {
        b.army(Samples.GREATEST);
        b.war("draw 9999; sell a b 999; order yield; weeks 13;".repeat(6));
        b.due("best(none)=5346 mean()=5346000 plan(5,0)=40000 pool(63)=5346 swaps(5)=5 see(40)=yes tell(5,5)=yes order(2)=yes orders(0)=0 judged(0)=3");
      }
      b.army(army);
      b.isAsNewWith(army);
      b.fresh(Samples.LEAST);
      b.army(Samples.LEAST);
      b.due("plan(1,0)=0 weeks(1)=1");
      b.army(army);
      b.isAsNewWith(army);
    }
    b.fresh(Samples.GREATEST);
    b.army(Samples.GREATEST);
    b.army(Samples.posts(1) + Samples.men(6));
    b.due("tell(0,0)=yes fair(0,1)=166666 fair(0,2)=1000000 years(0,40,2)=" + unheededOf(0, 40));
    b.fresh(Samples.posts(6) + Samples.men(6));
    for (int i = 0; i < 6; i++) b.due("post(" + i + ",3)=" + i + " man(" + i + ",3)=" + i);
    b.army(Samples.posts(6) + Samples.men(2));
    for (int i = 0; i < 6; i++) b.due("post(" + i + ",3)=" + (i < 2 ? i : -1));
    b.army(Samples.posts(2) + Samples.men(6));
    for (int i = 0; i < 6; i++) b.due("man(" + i + ",3)=" + (i < 2 ? i : -1));
    // an ARMY is told from nothing: what the one ahead told is not there
    b.fresh("front 40 at 1; theirs 0; quarter 1; heed 99; skill 99; worth 0 - load; goes 3;");
    b.army(Samples.posts(2) + Samples.men(2));
    b.due("count(2)=10 count(3)=5 skill(0,0)=1 swaps(1)=1 weeks(13)=5 count(3)=0");
    // a law goes no further than it was told, though a longer one stood there, in a text that was none or in ARMIES ahead
    for (String longer : new String[] {"not 5", "not not 5"}) {
      b.fresh();
      b.armyFault(1, "skill " + longer + ";^#");
      b.feed("skill " + longer + "; #");
      b.due("army()=" + (1 + 16 * (longer.length() + 8)));
      b.army(Samples.strong(1) + "skill 7;");
      b.due("skill(0,0)=7 ours()=7");
      b.fresh("goes " + longer + ";");
      b.army("goes " + longer + ";");
      b.army("front 40 at 20; goes 3;");
      b.due("weeks(1)=1 count(3)=23");
    }
    // the 17 that were done ahead are gone, and those behind count anew
    b.fresh(Samples.ARMY);
    for (int i = 0; i < 17; i++) b.due("draw(1)=yes");
    b.army(Samples.ARMY);
    b.due("count(10)=0 draw(1)=yes count(10)=1 undo()=yes undo()=no");
  }

  /** In how many quarters of YEARS by a SEED one of six MEN, courage 1 or 2 (heed is 3), has the first POST. */
  private static int unheededOf(int seed, int quarters) {
    int many = 0;
    Lots lots = new Lots(seed);
    for (int quarter = 0; quarter < quarters; quarter++) {
      if (lots.row(6)[0] < 2) many++;
      lots.below(3);
    }
    return many;
  }

  private void aWarIsTheWar() {
    b.holds(Document.TERMS, "A WAR is the WAR.");
    Samples.busy(b);
    b.due("count(7)=4");
    b.war("order yield; weeks 1;");
    b.due("count(7)=2 judged(0)=none judged(1)=2 judged(2)=1");
    // nothing else goes by it: z at a and y at b were 21 against 12
    b.due("count(3)=4 count(4)=1 count(5)=2 count(8)=2 count(9)=2 count(10)=4 mark(1,back)=yes mark(3,back)=yes");
    b.war("");
    b.due("count(7)=0 judged(0)=none judged(1)=3 judged(2)=0");
    Samples.busy(b);
    b.war("draw 5; sell x y 1; order push; weeks 2;");
    b.feed("weeks 14;");
    b.due("war()=100 count(7)=4 judged(2)=2");
    // a MARK gone back to, and UNDO, leave the WAR
    b.due("mark(1,back)=yes count(7)=4 draw(0)=yes undo()=yes count(7)=4");
  }

  private void atFirst() {
    b.holds(Document.TERMS, "At first: nothing.");
    b.isAsNewWith("");
    b.isAsNewWith(" \n");
    b.due("count(0)=0 count(1)=0 count(7)=0 undo()=no mark(0,back)=no");
  }
}
