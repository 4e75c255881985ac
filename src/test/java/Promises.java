import java.util.NoSuchElementException;

/** The document's promises, one by one: ordinary calls, the edges that it names, wrong inputs; worked out by hand. */
public final class Promises {
  private static final int LOST = Integer.MIN_VALUE;
  private static final String POSTS = "post a foot weighs 2; post b mule weighs 3 under a;";
  private static final String MEN = "man x brave 4 wit 1 coins 7; man y brave 2 wit 6 coins 3; man z brave 9 wit 0 coins 0;";
  private static final String FRONT = "front 8 at 3; theirs 12; quarter 2; heed 3;";
  private static int wrong = 0;
  private static int promise = 0;
  private static RaffleArmy x;

  private static void due(String call, int got, int want) {
    if (got != want) {
      wrong++;
      System.out.println("promise " + promise + ": " + call + " answered " + got + ", due is " + want);
    }
  }
  private static void due(String call, boolean got, boolean want) { due(call, got ? 1 : 0, want ? 1 : 0); }

  private static int feed(String text) {
    int many = x.feed(0, 0, 0);
    for (int i = 0; i < text.length(); i += 24) {
      long[] three = new long[3];
      for (int j = 0; j < 24 && i + j < text.length(); j++) three[j / 8] |= (long) text.charAt(i + j) << 56 - 8 * (j % 8);
      many = x.feed(three[0], three[1], three[2]);
    }
    return many;
  }
  private static int army(String text) { feed(text); return x.army(); }
  private static int war(String text) { feed(text); return x.war(); }
  /** A new object with the ARMY that most of these tests use, and lines more. */
  private static void begin(int number, String more) {
    promise = number;
    x = new RaffleArmy();
    due("army()", army(POSTS + MEN + FRONT + more), 0);
  }
  private static void begin(int number) { begin(number, ""); }
  /** A new object with an ARMY of its own. */
  private static void beginWith(int number, String text) {
    promise = number;
    x = new RaffleArmy();
    due("army()", army(text), 0);
  }
  private static void faultOfArmy(String text, int kind, String at) {
    int place = at.isEmpty() ? text.length() : text.lastIndexOf(at);
    due("army() of " + text, army(text), kind + 16 * place);
  }
  private static void faultOfWar(String text, int kind, String at) {
    int place = at.isEmpty() ? text.length() : text.lastIndexOf(at);
    due("war() of " + text, war(text), kind + 16 * place);
  }
  private static int rests(int ours, int theirs, int what) {
    try { return x.rests(ours, theirs, what); } catch (NoSuchElementException e) { return LOST; }
  }
  private static void dueRow(String call, int[] got, int... want) {
    for (int i = 0; i < want.length; i++) due(call + " [" + i + "]", got[i], want[i]);
  }
  private static int[] holders(int posts) {
    int[] row = new int[posts];
    for (int i = 0; i < posts; i++) row[i] = x.post(i, 3);
    return row;
  }

  private static void newObject() {
    promise = 1;
    x = new RaffleArmy();
    int[] want = {0, 0, 10, 5, 0, 0, 0, 0, 0, 0, 0, 0, 0};
    for (int i = 0; i < want.length; i++) due("count(" + i + ")", x.count(i), want[i]);
    due("post(0, 0)", x.post(0, 0), -1);
    due("man(0, 0)", x.man(0, 0), -1);
    due("undo()", x.undo(), false);
    due("mark(0, true)", x.mark(0, true), false);
    due("draw(0)", x.draw(0), true);
    due("weeks(13)", x.weeks(13), 5);
    due("count(3)", x.count(3), 0);
    due("NONE", RaffleArmy.NONE, -1);
  }

  private static void feeding() {
    promise = 2;
    x = new RaffleArmy();
    due("nothing", x.feed(0, 0, 0), 0);
    due("highest first", x.feed('a' * 0x0100000000000000L, 0, 'b'), 2);
    due("left out", x.feed(0x7f800900ff1f0b0dL, -1, 0xe9), 2);
    due("edges", x.feed(0x0a207e0000000000L, 0, 0), 5);
    due("24 signs", x.feed(0x6161616161616161L, 0x6262626262626262L, 0x6363636363636363L), 29);
    x.army();
    for (int i = 0; i < 41; i++) feed("aaaaaaaaaaaaaaaaaaaaaaaa");
    due("984", x.count(11), 984);
    due("1,000 at most", feed("abcdefghijklmnopqrstuvwx"), 1000);
    due("full", feed("a"), 1000);
    due("taken", x.army() == 0, false);
    due("empty behind", x.feed(0, 0, 0), 0);
    // the signs stand in the order of the bytes: "man q brave 1 wit 2 coins 3;"
    due("in order", x.feed(0x6d616e2071206272L, 0x6176652031207769L, 0x74203220636f696eL), 24);
    due("in order", x.feed(0x7320330000000000L, 0x3b, 0), 28);
    due("army()", x.army(), 0);
    due("brave", x.man(0, 0), 1);
    due("coins", x.man(0, 2), 3);
  }

  private static void armies() {
    promise = 3;
    x = new RaffleArmy();
    due("empty", x.army(), 0);
    due("blanks", army(" \n "), 0);
    due("no blanks", army("post a foot weighs 2under b;"), 2 + 16 * 26);
    due("no blanks", army("post a foot weighs 2;post b foe weighs 9under a;heed0;front 40at39;"), 0);
    due("cells", x.count(2), 40);
    due("front", x.count(3), 39);
    due("under", x.post(1, 2), 0);
    due("facts are names", army("post ours foot weighs 1; man courage brave 0 wit 9 coins 999; man what brave 09 wit 0009 coins 0;"), 0);
    due("a fault leaves all", army("post"), 1 + 16 * 4);
    due("men", x.count(1), 2);
    due("cells told no more", x.count(2), 10);
    String[] kept = ("post weighs under man brave wit coins front at theirs quarter heed skill worth goes draw sell order weeks"
        + " hold push yield foot horse mule foe not and or").split(" ");
    for (String word : kept) due("kept " + word, army("post " + word), 1 + 16 * 5);
    String six = "";
    for (char c = 'a'; c <= 'f'; c++) six += "post " + c + " foot weighs 1;";
    faultOfArmy(six + "post g", 5, "post g");
    six = "";
    for (char c = 'a'; c <= 'f'; c++) six += "man " + c + " brave 1 wit 1 coins 1;";
    faultOfArmy(six + "man", 5, "man");
    due("six", army(six), 0);
    due("men", x.count(1), 6);
    faultOfArmy("post a foot weighs 0", 4, "0");
    faultOfArmy("post a foot weighs 10", 4, "10");
    faultOfArmy("post a foot weighs a", 1, "a");
    faultOfArmy("post a foot weighs 1 under b", 2, "b");
    faultOfArmy("post a foot weighs 1; man m brave 0 wit 0 coins 0; post b foot weighs 1 under m", 2, "m");
    faultOfArmy("post a foot weighs 1 under foot", 1, "foot");
    faultOfArmy("post a foot weighs 1 under 1", 1, "1");
    faultOfArmy("post a foot weighs 1 ; post a", 3, "a");
    faultOfArmy("man a brave 0 wit 0 coins 0; post a", 3, "a");
    faultOfArmy("post a foot", 1, "");
    faultOfArmy("post a boot", 1, "boot");
    faultOfArmy("post abcdefghi", 1, "abcdefghi");
    faultOfArmy("post abcdefgh foot weighs 12345", 1, "12345");
    faultOfArmy("Post", 1, "Post");
    faultOfArmy("post a foot weighs 1 ; #", 1, "#");
    faultOfArmy("man a brave 10", 4, "10");
    faultOfArmy("man a brave 9 wit 10", 4, "10");
    faultOfArmy("man a brave 9 wit 9 coins 1000", 4, "1000");
    faultOfArmy("man a brave 9 wit 9 coins 999", 1, "");
    faultOfArmy("front 3", 4, "3");
    faultOfArmy("front 41", 4, "41");
    faultOfArmy("front 4 at 4", 4, "4");
    faultOfArmy("front 4 at 0", 4, "0");
    faultOfArmy("front 4 1", 1, "1");
    faultOfArmy("theirs 1000", 4, "1000");
    faultOfArmy("quarter 0", 4, "0");
    faultOfArmy("quarter 14", 4, "14");
    faultOfArmy("heed 100", 4, "100");
    for (String line : new String[] {"front 9 at 1", "theirs 0", "quarter 13", "heed 99", "skill 1", "worth 1", "goes 1"}) {
      String word = line.substring(0, line.indexOf(' '));
      faultOfArmy(line + ";" + word, 3, word);
    }
    faultOfArmy("draw 1 ;", 1, "draw");
    laws();
  }

  private static void laws() {
    faultOfArmy("skill ours", 1, "ours");
    faultOfArmy("goes kind", 1, "kind");
    faultOfArmy("skill", 1, "");
    faultOfArmy("skill ;", 1, ";");
    faultOfArmy("skill 1 < 2 = 3", 1, "= 3");
    faultOfArmy("skill (1", 1, "");
    faultOfArmy("skill (1 ;", 1, ";");
    faultOfArmy("skill 1)", 1, ")");
    faultOfArmy("skill - 1", 1, "-");
    faultOfArmy("skill 1 not", 1, "not");
    faultOfArmy("skill 1 and or", 1, "or");
    faultOfArmy("skill not not not not not 1", 5, "1");
    faultOfArmy("skill not (not (not not", 5, "not");
    faultOfArmy("skill not (not (not", 1, "");
    faultOfArmy("skill (((((load", 5, "load");
    faultOfArmy("skill (((((not", 5, "not");
    faultOfArmy("skill ((((((", 5, "(");
    faultOfArmy("skill (((((ours", 1, "ours");
    faultOfArmy("skill (((((;", 1, ";");
    faultOfArmy("skill (((((99999", 1, "99999");
    due("within 4", army("skill ((((1)))) + not not not not 1 ;"), 0);
    // from the left: (1 or 0) and 0; products ahead of sums, sums ahead of tests
    due("told", army("post a mule weighs 5; man m brave 3 wit 2 coins 0; skill 1 or 0 and 0;"), 0);
    due("or, and", x.skill(0, 0), 0);
    due("told", army("post a mule weighs 5; man m brave 3 wit 2 coins 0; skill courage + sense * load - kind < 11 + 1;"), 0);
    due("sums ahead of tests", x.skill(0, 0), 1);
    due("told", army("post a mule weighs 5; man m brave 3 wit 2 coins 0; skill 20 - courage - sense * load;"), 0);
    due("from the left", x.skill(0, 0), 7);
    due("told", army("post a mule weighs 5; man m brave 3 wit 2 coins 0; skill not 7 + not 0 * 5 + (kind = 2) * 20;"), 0);
    due("not", x.skill(0, 0), 25);
    due("told", army("post a mule weighs 5; man m brave 3 wit 2 coins 0; skill 9999 * 9999 * 9999 < 0;"), 0);
    due("ints wrap", x.skill(0, 0), 9999 * 9999 * 9999 < 0 ? 1 : 0);
    due("told", army("post a mule weighs 5; man m brave 3 wit 2 coins 0; skill 7 and 2 or 0;"), 0);
    due("1 or 0", x.skill(0, 0), 1);
    due("told", army("post a mule weighs 5; man m brave 3 wit 2 coins 0; skill 2 < 2 or 0 or 4 = 5;"), 0);
    due("neither", x.skill(0, 0), 0);
    due("told", army("post a mule weighs 5; man m brave 3 wit 2 coins 0; skill 0 or 8;"), 0);
    due("the second", x.skill(0, 0), 1);
    begin(3);
    due("order", x.order(1), true);
    due("see", x.see(1), true);
    due("tell", x.tell(0, 0), true);
    due("mark", x.mark(0, false), true);
    due("war", war("weeks 1;"), 0);
    due("weeks", x.weeks(2), 2);
    due("a new army", army("man q brave 0 wit 0 coins 5;"), 0);
    int[] want = {0, 1, 10, 5, 0, 0, 5, 0, 0, 0, 0, 0, 0};
    for (int i = 0; i < want.length; i++) due("count(" + i + ")", x.count(i), want[i]);
    due("no mark", x.mark(0, true), false);
  }

  private static void wars() {
    begin(4);
    due("empty", x.war(), 0);
    due("lines", war("draw 0; draw 9999; sell x y 0; sell z x 999; order hold; order yield; weeks 1; weeks 13 ;"), 0);
    due("count(7)", x.count(7), 8);
    faultOfWar("draw 10000", 1, "10000");
    faultOfWar("draw x", 1, "x");
    faultOfWar("sell a", 2, "a");
    faultOfWar("sell x a", 2, "a");
    faultOfWar("sell x x", 3, "x");
    faultOfWar("sell hold", 1, "hold");
    faultOfWar("sell x y 1000", 4, "1000");
    faultOfWar("sell x y", 1, "");
    faultOfWar("order x", 1, "x");
    faultOfWar("order foot", 1, "foot");
    faultOfWar("weeks 0", 4, "0");
    faultOfWar("weeks 14", 4, "14");
    faultOfWar("weeks 1 weeks", 1, "weeks");
    faultOfWar("post", 1, "post");
    due("the war stays", x.count(7), 8);
    due("the tape is taken", x.count(11), 0);
    String many = "";
    for (int i = 0; i < 24; i++) many += "weeks 1;";
    due("24", war(many), 0);
    due("count(7)", x.count(7), 24);
    faultOfWar(many + "order", 5, "order");
    faultOfWar(many + "hold", 1, "hold");
    due("none", war(""), 0);
    due("count(7)", x.count(7), 0);
  }

  private static void postsAndMen() {
    beginWith(5, "post a horse weighs 9; post b foe weighs 1 under a; post c mule weighs 4 under b; post d foot weighs 2 under a;"
        + "man m brave 1 wit 5 coins 8; man n brave 2 wit 0 coins 1; man o brave 3 wit 3 coins 0; heed 3;");
    int[][] want = {{1, 9, -1, 0, 1, -1}, {3, 1, 0, 1, 1, -1}, {2, 4, 1, 2, 0, -1}, {0, 2, 0, -1, 0, -1}};
    for (int p = 0; p < 4; p++) for (int w = 0; w < 6; w++) due("post(" + p + ", " + w + ")", x.post(p, w), want[p][w]);
    due("post(0, -1)", x.post(0, -1), -1);
    due("post(4, 1)", x.post(4, 1), -1);
    due("post(-1, 1)", x.post(-1, 1), -1);
    promise = 6;
    int[][] men = {{1, 5, 8, 0, -1}, {2, 0, 1, 1, -1}, {3, 3, 0, 2, -1}};
    for (int m = 0; m < 3; m++) for (int w = 0; w < 5; w++) due("man(" + m + ", " + w + ")", x.man(m, w), men[m][w]);
    due("man(3, 0)", x.man(3, 0), -1);
    due("man(-1, 0)", x.man(-1, 0), -1);
    due("man(0, -1)", x.man(0, -1), -1);
    begin(6);
    due("none", x.man(2, 3), -1);
    promise = 7;
    due("foot", x.skill(2, 0), 9);
    due("mule", x.skill(1, 1), 2);
    due("no man", x.skill(3, 0), -1);
    due("no man", x.skill(-1, 0), -1);
    due("no post", x.skill(0, 2), -1);
    due("no post", x.skill(0, -1), -1);
    beginWith(7, "post a horse weighs 1; man m brave 1 wit 5 coins 0;");
    due("horse", x.skill(0, 0), 5);
    beginWith(7, "post a horse weighs 1; post b foe weighs 2; man m brave 1 wit 5 coins 0; skill (load = 1) * 100 - (load = 2) * 5;");
    due("99 at most", x.skill(0, 0), 99);
    due("0 at least", x.skill(0, 1), 0);
  }

  private static void strength() {
    begin(8);
    due("8 and half of 6", x.ours(), 11);
    due("sell", x.sell(0, 1, 0), true);
    due("y is not heeded", x.ours(), 4);
    beginWith(8, "post a mule weighs 3; post b foe weighs 1; man m brave 5 wit 0 coins 0; man n brave 6 wit 0 coins 0;");
    due("7 less 6", x.ours(), 1);
    due("sell", x.sell(0, 1, 0), true);
    due("9 less 5", x.ours(), 4);
    beginWith(8, "post b foe weighs 9; man m brave 5 wit 0 coins 0;");
    due("0 at least", x.ours(), 0);
    beginWith(8, "post a foot weighs 1; post b foot weighs 1 under a; man m brave 3 wit 0 coins 0; man n brave 1 wit 0 coins 0; heed 3;");
    due("no less than heed", x.ours(), 4);
    beginWith(8, "man m brave 3 wit 0 coins 0;");
    due("no post", x.ours(), 0);
  }

  private static void byHand() {
    begin(9);
    due("draw(-1)", x.draw(-1), false);
    due("draw(10000)", x.draw(10000), false);
    due("nothing to undo", x.count(10), 0);
    due("draw(0)", x.draw(0), true);
    dueRow("draw(0)", holders(2), 1, 2);
    due("x has none", x.man(0, 3), -1);
    due("draw(1)", x.draw(1), true);
    dueRow("draw(1)", holders(2), 1, 0);
    due("draw(9999)", x.draw(9999), true);
    dueRow("draw(9999)", holders(2), 0, 1);
    due("count(10)", x.count(10), 3);
    String six = "";
    for (char c = 'a'; c <= 'f'; c++) six += "man " + c + " brave 1 wit 1 coins 1; post p" + c + " foot weighs 1;";
    beginWith(9, six);
    x.draw(3);
    dueRow("draw(3)", holders(6), 3, 0, 4, 1, 2, 5);
    beginWith(9, "post a foot weighs 1; post b foot weighs 1; man m brave 1 wit 1 coins 1;");
    due("one man", x.draw(5), true);
    dueRow("one man", holders(2), 0, -1);

    begin(10);
    due("himself", x.sell(0, 0, 0), false);
    due("no seller", x.sell(3, 0, 0), false);
    due("no seller", x.sell(-1, 0, 0), false);
    due("no buyer", x.sell(0, 3, 0), false);
    due("no buyer", x.sell(0, -1, 0), false);
    due("no post to sell", x.sell(2, 0, 0), false);
    due("too dear", x.sell(0, 1, 4), false);
    due("less than nothing", x.sell(0, 1, -1), false);
    due("1,000", x.sell(0, 1, 1000), false);
    due("all his coins", x.sell(0, 1, 3), true);
    dueRow("changed", holders(2), 1, 0);
    due("coins", x.man(0, 2), 10);
    due("coins", x.man(1, 2), 0);
    due("to one without a post", x.sell(0, 2, 0), true);
    dueRow("changed", holders(2), 1, 2);
    due("he has none", x.man(0, 3), -1);
    due("count(10)", x.count(10), 2);
    due("count(6)", x.count(6), 10);

    begin(11);
    due("hold already", x.order(0), false);
    due("order(-1)", x.order(-1), false);
    due("order(3)", x.order(3), false);
    due("order(2)", x.order(2), true);
    due("count(5)", x.count(5), 2);
    due("order(2)", x.order(2), false);
    due("order(0)", x.order(0), true);
    due("count(10)", x.count(10), 2);
  }

  private static void passing() {
    begin(12);
    due("weeks(0)", x.weeks(0), -1);
    due("weeks(14)", x.weeks(14), -1);
    due("weeks(1)", x.weeks(1), 1);
    due("it holds", x.count(3), 3);
    due("order", x.order(1), true);
    due("till the quarter", x.weeks(13), 1);
    due("11 against 12", x.count(3), 2);
    due("over", x.count(12), 1);
    due("none can", x.weeks(1), -1);
    due("order", x.order(2), true);
    due("none can", x.weeks(1), -1);
    due("draw", x.draw(9999), true);
    due("not over", x.count(12), 0);
    due("till 0", x.weeks(13), 2);
    due("front", x.count(3), 0);
    due("week", x.count(4), 4);
    due("draw", x.draw(9999), true);
    due("none can", x.weeks(1), -1);
    begin(12, "goes what * 9 - 4;");
    due("order", x.order(1), true);
    due("3 at most", x.weeks(1), 1);
    due("front", x.count(3), 6);
    due("to the cells", x.weeks(1), 1);
    due("front", x.count(3), 8);
    due("draw", x.draw(1), true);
    due("none can", x.weeks(1), -1);
    begin(12, "goes 0 - ours - against * 2 - what;");
    due("-3 at least", x.weeks(1), 1);
    due("front", x.count(3), 0);
    beginWith(12, "front 40 at 20; goes 0;");
    due("13 and over", x.weeks(13), 13);
    due("over", x.count(12), 1);
    // without goes: hold loses by twice ours less than theirs, push goes by which is more
    beginWith(12, "post a foot weighs 1; man m brave 5 wit 0 coins 0; theirs 10;");
    due("weeks", x.weeks(1), 1);
    due("10 is not less than 10", x.count(3), 5);
    beginWith(12, "post a foot weighs 1; man m brave 5 wit 0 coins 0; theirs 11;");
    due("weeks", x.weeks(1), 1);
    due("10 is less than 11", x.count(3), 4);
    beginWith(12, "post a foot weighs 1; man m brave 5 wit 0 coins 0; theirs 4;");
    due("order", x.order(1), true);
    due("weeks", x.weeks(2), 2);
    due("5 is more than 4", x.count(3), 7);
    beginWith(12, "post a foot weighs 1; man m brave 5 wit 0 coins 0; theirs 5;");
    due("order", x.order(1), true);
    due("weeks", x.weeks(2), 2);
    due("5 is 5", x.count(3), 5);
    due("order", x.order(2), true);
    due("weeks", x.weeks(2), 2);
    due("yield", x.count(3), 3);
  }

  private static void undoing() {
    begin(13);
    due("nothing", x.undo(), false);
    due("order", x.order(2), true);
    due("sell", x.sell(0, 1, 2), true);
    due("weeks", x.weeks(2), 2);
    due("see", x.see(1), true);
    due("tell", x.tell(0, 0), true);
    due("draw", x.draw(0), true);
    due("not over", x.count(12), 0);
    due("undo", x.undo(), true);
    due("over again", x.count(12), 1);
    dueRow("as sold", holders(2), 1, 0);
    due("undo", x.undo(), true);
    due("both weeks", x.count(4), 0);
    due("front", x.count(3), 3);
    due("not over", x.count(12), 0);
    due("undo", x.undo(), true);
    dueRow("as told", holders(2), 0, 1);
    due("coins", x.man(0, 2), 7);
    due("undo", x.undo(), true);
    due("order", x.count(5), 0);
    due("nothing", x.undo(), false);
    due("seen stays", x.count(8), 1);
    due("told stays", x.count(9), 1);
    for (int i = 0; i < 20; i++) due("draw", x.draw(i), true);
    due("16", x.count(10), 16);
    for (int i = 0; i < 16; i++) due("undo", x.undo(), true);
    due("nothing", x.undo(), false);
    dueRow("as by draw(3)", holders(2), 0, 1);
    due("what fails is not undone", x.sell(0, 0, 0), false);
    due("nothing", x.undo(), false);
  }

  private static void judging() {
    begin(14);
    due("what -1", x.judged(-1), -2);
    due("what 3", x.judged(3), -2);
    due("no war", x.judged(0), -1);
    due("no war", x.judged(1), 3);
    due("no war", x.judged(2), 0);
    due("yield", x.order(2), true);
    due("weeks", x.weeks(1), 1);
    due("war", war("weeks 2; draw 0; sell x y 1; sell y x 0; sell z x 7; order push; weeks 1;"), 0);
    // draw 0: a has y, b has z; x has no post to sell; y sells a to x, then z sells b to x and has a
    due("x has none", x.judged(0), 2);
    due("held, then 24 against 12", x.judged(1), 4);
    due("weeks", x.judged(2), 3);
    due("all is as ahead", x.count(3), 2);
    due("all is as ahead", x.count(10), 2);
    due("war", war("weeks 3; order yield; draw 1; weeks 13;"), 0);
    due("not all of them", x.judged(0), 0);
    due("as many as can be", x.judged(2), 4);
    due("front", x.judged(1), 1);
    due("war", war("order push; weeks 2; draw 9999; weeks 1;"), 0);
    due("all can", x.judged(0), -1);
    due("front 0 by the last week", x.judged(1), 0);
    due("weeks", x.judged(2), 3);
    due("war", war("order push; order push; weeks 1;"), 0);
    due("ordered already", x.judged(0), 1);
    due("front", x.judged(1), 2);
  }

  private static void unheeded() {
    begin(15);
    due("all obey", x.first(), -1);
    due("sell", x.sell(0, 1, 0), true);
    due("b heeds nobody", x.first(), 1);
    beginWith(15, "post a foot weighs 1; post b foot weighs 1 under a; post c foot weighs 1 under b; post d foot weighs 1 under a;"
        + "man m brave 1 wit 0 coins 0; man n brave 2 wit 0 coins 0; man o brave 3 wit 0 coins 0; man p brave 4 wit 0 coins 0; heed 3;");
    due("b is under one that obeys", x.first(), 1);
    due("c: its b obeys, and has no skill", x.sell(0, 3, 0), true);
    due("c", x.first(), 2);
    beginWith(15, "post a foot weighs 1; man m brave 3 wit 0 coins 0;");
    due("none", x.first(), -1);
    beginWith(15, "post a foot weighs 1; post b foot weighs 1; post c foot weighs 1 under b; man m brave 9 wit 0 coins 0;");
    due("c is not held", x.first(), -1);
  }

  private static void reckoning() {
    begin(16);
    due("OURS", x.best(-1), 24);
    due("a", x.best(0), 2);
    due("b", x.best(1), 0);
    due("others", x.best(2), -2);
    due("others", x.best(-2), -2);
    beginWith(16, "post a foe weighs 1; post b foot weighs 1; post c foot weighs 1; man m brave 2 wit 0 coins 0; man n brave 2 wit 0 coins 0;");
    due("4", x.best(-1), 4);
    due("none, behind all", x.best(0), -1);
    due("the first", x.best(1), 0);
    due("the next", x.best(2), 1);
    beginWith(16, "post a foot weighs 1; post b foot weighs 1;");
    due("no men", x.best(-1), 0);
    due("no men", x.best(1), -1);

    begin(17);
    due("85 sixths", x.mean(), 14166);
    due("as ever", x.draw(0), true);
    due("85 sixths", x.mean(), 14166);
    beginWith(17, "post a foot weighs 1; post b foot weighs 3; man m brave 2 wit 0 coins 0;");
    due("2 and 6", x.mean(), 4000);
    begin(18);
    due("24 less 85 sixths", x.loss(), 9834);

    begin(19);
    due("one week", x.plan(1, 0), 3000);
    due("push", x.plan(1, 1), 1);
    due("two weeks", x.plan(2, 0), 3000);
    due("push", x.plan(2, 1), 1);
    due("push", x.plan(2, 2), 1);
    due("others", x.plan(0, 0), -1);
    due("others", x.plan(6, 0), -1);
    due("others", x.plan(2, 3), -1);
    due("others", x.plan(2, -1), -1);
    due("order", x.order(2), true);
    due("weeks", x.weeks(2), 2);
    due("quarters aside, from 1", x.plan(1, 0), 1000);
    due("draw", x.draw(0), true);
    due("weeks", x.weeks(1), 1);
    due("at 0 it stays", x.plan(5, 0), 0);
    due("the first row", x.plan(5, 5), 0);
    beginWith(19, "front 9 at 1; goes (what = 1) * 4 - 1;");
    due("3, 3, 2", x.plan(3, 0), 9000);
    due("push", x.plan(3, 1), 1);
    due("push", x.plan(3, 3), 1);
    due("five", x.plan(5, 0), 9000);
    due("push, for at 0 it stays", x.plan(5, 1), 1);
    due("a hold can be", x.plan(5, 2), 0);
    due("then push", x.plan(5, 3), 1);
    due("then push", x.plan(5, 4), 1);
    due("at 9 it stays", x.plan(5, 5), 0);
  }

  private static void swapping() {
    begin(20);
    due("by load x has his own", x.swaps(0), 0);
    due("y too", x.swaps(1), 1);
    due("z none", x.swaps(2), -1);
    due("others", x.swaps(3), -2);
    due("others", x.swaps(-1), -2);
    promise = 21;
    due("nobody", x.leave(), 0);
    begin(20, "worth sense * (kind = 0) + courage * (kind = 2);");
    due("x", x.swaps(0), 1);
    due("y", x.swaps(1), 0);
    promise = 21;
    due("both", x.leave(), 3);
    dueRow("nothing changed", holders(2), 0, 1);
    begin(20, "worth 0 - 5;");
    due("of equal ones the least: x keeps a", x.swaps(0), 0);
    due("y has what is left", x.swaps(1), 1);
    begin(20, "worth (sense = 6) * (kind = 0);");
    due("x, to whom they are equal, likes a", x.swaps(0), 0);
    due("y would have liked a", x.swaps(1), 1);
    // m likes c, n likes a, o likes b: a ring of three, p likes a and is left with his own
    beginWith(20, "post a foot weighs 1; post b foot weighs 2; post c foot weighs 3; post d foot weighs 4;"
        + "man m brave 3 wit 0 coins 0; man n brave 1 wit 0 coins 0; man o brave 2 wit 0 coins 0; man p brave 1 wit 0 coins 0;"
        + "worth courage = load;");
    due("m", x.swaps(0), 2);
    due("n", x.swaps(1), 0);
    due("o", x.swaps(2), 1);
    due("p", x.swaps(3), 3);
    promise = 21;
    due("three", x.leave(), 7);
  }

  private static void pooling() {
    begin(22);
    due("x", x.pool(1), 8);
    due("y", x.pool(2), 6);
    due("both", x.pool(3), 16);
    due("nobody", x.pool(0), -1);
    due("z has none", x.pool(4), -1);
    due("z has none", x.pool(7), -1);
    due("sell", x.sell(0, 2, 0), true);
    due("x has none", x.pool(1), -1);
    due("undo", x.undo(), true);
    due("others", x.pool(8), -1);
    due("others", x.pool(-1), -1);
    due("others", x.pool(Integer.MIN_VALUE), -1);
    promise = 23;
    due("x", x.share(3, 0), 9000);
    due("y", x.share(3, 1), 7000);
    due("alone", x.share(1, 0), 8000);
    due("not of these", x.share(1, 1), -1);
    due("others", x.share(3, 3), -1);
    due("others", x.share(3, -1), -1);
    due("others", x.share(3, 32), -1);
    due("others", x.share(0, 0), -1);
    due("others", x.share(7, 0), -1);
    // m 2 at 1, n 3 at 2, o 5 at 3; pools: 2, 6, 15; mn 8, mo 17, no 21; all 23: added to, on the mean, 2, 6 and 15
    beginWith(23, "post a foot weighs 1; post b foe weighs 2 under a; post c mule weighs 3 under a;"
        + "man m brave 2 wit 0 coins 0; man n brave 3 wit 0 coins 0; man o brave 5 wit 0 coins 0;");
    due("m", x.share(7, 0), 2000);
    due("n", x.share(7, 1), 6000);
    due("o", x.share(7, 2), 15000);
    // m 5 at 1, n 3 at 2, o 2 at 3: pools 5, 6, 6; mn 13, mo 17, no 13; all 23; m: (5 + 5 + 7 + 11 + 10 + 10) / 6
    beginWith(23, "post a foot weighs 1; post b foe weighs 2 under a; post c mule weighs 3 under a;"
        + "man m brave 5 wit 0 coins 0; man n brave 3 wit 0 coins 0; man o brave 2 wit 0 coins 0;");
    due("mn", x.pool(3), 13);
    due("all", x.pool(7), 23);
    due("m", x.share(7, 0), 8000);
    due("n: (6 + 6 + 8 + 7 + 6 + 6) / 6", x.share(7, 1), 6500);
    due("o: 23 less these", x.share(7, 2), 8500);
  }

  private static void fairness() {
    begin(24);
    due("no man", x.tell(3, 0), false);
    due("no man", x.tell(-1, 0), false);
    due("no post", x.tell(0, 2), false);
    due("no post", x.tell(0, -1), false);
    for (int i = 0; i < 8; i++) due("tell", x.tell(i % 3, i % 2), true);
    due("8 are told", x.tell(0, 0), false);
    due("count(9)", x.count(9), 8);

    begin(25);
    due("nothing told", x.fair(0, 3), -1);
    due("tell", x.tell(0, 1), true);
    due("a third", x.fair(0, 3), 333333);
    due("nothing told of him", x.fair(1, 3), -1);
    due("tell", x.tell(0, 0), true);
    due("5 ninths", x.fair(0, 3), 555555);
    due("4 ninths", x.fair(0, 2), 444444);
    due("none weighs so", x.fair(0, 9), 1000000);
    due("others", x.fair(0, 0), -1);
    due("others", x.fair(0, 10), -1);
    due("others", x.fair(3, 3), -1);
    due("others", x.fair(-1, 3), -1);
    promise = 26;
    due("11 of 243", x.more(0, 3, 100000), 3);
    due("45267 is below 45268", x.more(0, 3, 45268), 3);
    due("45267 is not below 45267", x.more(0, 3, 45267), 4);
    due("355 in a million by 8", x.more(0, 3, 356), 8);
    due("not by 8", x.more(0, 3, 355), -1);
    due("at once", x.more(0, 2, 1000000), 0);
    due("0 millionths", x.more(0, 3, 0), -1);
    due("too many", x.more(0, 3, 1000001), -1);
    due("others", x.more(0, 0, 5), -1);
    due("others", x.more(0, 10, 5), -1);
    due("others", x.more(3, 3, 5), -1);
    due("nothing told of him", x.more(1, 3, 5), -1);
    due("what can't be at all", x.more(0, 4, 1), 1);
    // of three posts but one man: only the first can be drawn
    beginWith(25, "post a foot weighs 1; post b foot weighs 9; man m brave 0 wit 0 coins 0;");
    due("tell", x.tell(0, 1), true);
    due("never by a fair draw", x.fair(0, 9), 0);
    due("always", x.fair(0, 1), 1000000);
    promise = 26;
    due("always", x.more(0, 1, 1000000), -1);
    due("never", x.more(0, 2, 1), 0);
  }

  private static void seeing() {
    begin(27);
    due("see(-1)", x.see(-1), false);
    due("see(9)", x.see(9), false);
    due("see(8)", x.see(8), true);
    for (int i = 0; i < 4; i++) due("see", x.see(0), true);
    due("5 are seen", x.see(1), false);
    due("count(8)", x.count(8), 5);
    begin(28);
    due("nothing seen", x.orders(-1), 1);
    due("nothing seen", x.orders(0), -2);
    due("see", x.see(3), true);
    due("hold", x.orders(-1), 1);
    due("see", x.see(2), true);
    due("then push or yield", x.orders(-1), 2);
    due("hold", x.orders(0), 0);
    due("push", x.orders(1), 1);
    due("others", x.orders(2), -2);
    due("others", x.orders(-2), -2);
    due("see", x.see(4), true);
    due("no row", x.orders(-1), 0);
    due("no row", x.orders(0), -2);
    begin(28);
    for (int front : new int[] {2, 1, 0, 0, 0}) due("see", x.see(front), true);
    due("2 * 2 * 2 * 3 * 3", x.orders(-1), 72);
    due("push", x.orders(2), 1);
    due("hold", x.orders(3), 0);
  }

  private static void delaying() {
    begin(29);
    due("it need not be", x.putOff(0), -1);
    due("hold", x.putOff(1), 0);
    due("others", x.putOff(2), -2);
    due("others", x.putOff(-1), -2);
    begin(29, "goes what - 3;");
    due("one by one", x.putOff(0), 3);
    due("yield", x.putOff(1), 2);
    due("weeks", x.weeks(1), 1);
    due("0 now", x.putOff(0), 0);
    due("0 now", x.putOff(1), -1);
    beginWith(29, "front 8 at 4; goes (what = 1) - 3;");
    due("3 and 1, or 2 and 2", x.putOff(0), 2);
    due("hold, of equal ones", x.putOff(1), 0);
    beginWith(29, "front 8 at 5; goes (what = 1) - 3;");
    due("2, 2, 1", x.putOff(0), 3);
    due("push", x.putOff(1), 1);
    beginWith(29, "front 8 at 6; goes (what = 2) * 5 - 3;");
    due("the cells end it", x.putOff(0), -1);
    due("hold, yield behind it", x.putOff(1), 0);
    due("order", x.order(2), true);
    due("weeks", x.weeks(1), 1);
    due("the cells now", x.putOff(0), -1);
    due("the cells now", x.putOff(1), -1);
    beginWith(29, "front 40 at 39;");
    due("39", x.putOff(0), 39);
    beginWith(29, "front 8 at 3; goes 0 - 1 - what;");
    due("one by one", x.putOff(0), 3);
    due("hold", x.putOff(1), 0);
  }

  private static void resting() {
    begin(30);
    due("all", rests(5, 5, -1), 4);
    for (int i = 0; i < 4; i++) due("each", rests(5, 5, i), i);
    due("none such", rests(5, 5, 4), LOST);
    due("we push, they hold", rests(8, 5, -1), 1);
    due("we push, they hold", rests(8, 5, 0), 2);
    due("none such", rests(8, 5, 1), LOST);
    due("we hold, they push", rests(5, 8, 0), 1);
    due("they lose by both", rests(999, 0, -1), 2);
    due("push, hold", rests(999, 0, 0), 2);
    due("push, push", rests(999, 0, 1), 3);
    due("others", rests(-1, 5, -1), LOST);
    due("others", rests(1000, 5, -1), LOST);
    due("others", rests(5, -1, -1), LOST);
    due("others", rests(5, 1000, -1), LOST);
    due("others", rests(5, 5, -2), LOST);
    begin(30, "goes ours - against + what;");
    due("both push", rests(5, 5, -1), 1);
    due("both push", rests(5, 5, 0), 3);
    due("-3 to 3", rests(1, 10, -1), 4);
  }

  private static void yearsByDraws() {
    // one man draws nothing; the orders by seed 1: yield, push, hold, push, push, yield
    beginWith(31, "post a foot weighs 1; man x brave 2 wit 0 coins 0; front 20 at 10; theirs 3; quarter 3; heed 3;");
    int[] fronts = {7, 4, 4, 1, 0, 0};
    int[] weeks = {3, 6, 9, 12, 13, 13};
    for (int q = 1; q <= 6; q++) {
      due("front", x.years(1, q, 0), fronts[q - 1]);
      due("weeks", x.years(1, q, 1), weeks[q - 1]);
      due("quarters", x.years(1, q, 2), q);
    }
    due("as ahead", x.count(3), 10);
    due("as ahead", x.count(4), 0);
    due("as ahead", x.count(10), 0);
    due("a week", x.weeks(1), 1);
    due("a whole quarter all the same", x.years(1, 1, 1), 3);
    due("others", x.years(-1, 1, 0), -1);
    due("others", x.years(10000, 1, 0), -1);
    due("others", x.years(1, 0, 0), -1);
    due("others", x.years(1, 41, 0), -1);
    due("others", x.years(1, 1, 3), -1);
    due("others", x.years(1, 1, -1), -1);
    due("40", x.years(9999, 40, 2), 40);
    // two men by seed 0: they change (0 of 2), then the order
    beginWith(31, "post a foot weighs 1; man m brave 9 wit 0 coins 0; man n brave 2 wit 0 coins 0; front 20 at 10; theirs 3; quarter 3; heed 3;");
    due("n has the first post", x.years(0, 1, 2), 1);
    due("draw", x.draw(3), true);
    due("the row begins by numbers", x.years(0, 1, 2), 1);
    beginWith(31, "post a foot weighs 1; man m brave 3 wit 0 coins 0; heed 3;");
    due("skill of heed", x.years(0, 9, 2), 0);
    beginWith(31, "post a foot weighs 1; heed 3;");
    due("no man", x.years(0, 9, 2), 0);
  }

  private static void marking() {
    begin(32);
    due("none such", x.mark(-1, false), false);
    due("none such", x.mark(4, false), false);
    due("none such", x.mark(4, true), false);
    due("nothing on it", x.mark(3, true), false);
    due("sell", x.sell(0, 1, 2), true);
    due("order", x.order(2), true);
    due("weeks", x.weeks(2), 2);
    due("see", x.see(7), true);
    due("tell", x.tell(2, 1), true);
    due("laid", x.mark(3, false), true);
    due("undone as ever", x.count(10), 3);
    due("draw", x.draw(0), true);
    due("weeks", x.weeks(1), 1);
    due("order", x.order(1), true);
    due("see", x.see(6), true);
    due("tell", x.tell(2, 0), true);
    due("back", x.mark(3, true), true);
    dueRow("who has what", holders(2), 1, 0);
    int[] want = {2, 3, 8, 1, 2, 2, 10, 0, 1, 1, 0, 0, 1};
    for (int i = 0; i < want.length; i++) due("count(" + i + ")", x.count(i), want[i]);
    due("coins", x.man(0, 2), 9);
    due("nothing to undo", x.undo(), false);
    due("what was told", x.fair(2, 3), 333333);
    due("what was seen", x.orders(-1), 0);
    due("seen, and laid", x.see(0) && x.mark(2, false), true);
    due("another army's mark is gone", army("post a foot weighs 1; man m brave 1 wit 1 coins 1;") == 0 && x.mark(2, true), false);
    begin(32);
    due("see", x.see(2), true);
    due("tell", x.tell(2, 1), true);
    due("laid", x.mark(1, false), true);
    due("see more", x.see(8), true);
    due("back", x.mark(1, true), true);
    due("push or yield", x.orders(-1), 2);
    due("b was drawn", x.fair(2, 3), 333333);
    due("draw", x.draw(9999), true);
    due("laid anew", x.mark(3, false), true);
    due("draw", x.draw(0), true);
    due("back again", x.mark(3, true), true);
    dueRow("who has what", holders(2), 0, 1);
    due("drawn already", x.count(12), 0);
    due("another", x.mark(0, true), false);
  }

  private static void counting() {
    begin(33);
    due("lines", war("weeks 1; weeks 2;"), 0);
    feed("abc");
    due("order", x.order(1), true);
    due("weeks", x.weeks(2), 2);
    due("see", x.see(1), true);
    due("tell", x.tell(1, 1), true);
    int[] want = {2, 3, 8, 1, 2, 1, 10, 2, 1, 1, 2, 3, 1};
    for (int i = 0; i < want.length; i++) due("count(" + i + ")", x.count(i), want[i]);
    due("count(-1)", x.count(-1), -1);
    due("count(13)", x.count(13), -1);
  }

  public static void main(String[] args) {
    newObject();
    feeding();
    armies();
    wars();
    postsAndMen();
    strength();
    byHand();
    passing();
    undoing();
    judging();
    unheeded();
    reckoning();
    swapping();
    pooling();
    fairness();
    seeing();
    delaying();
    resting();
    yearsByDraws();
    marking();
    counting();
    System.out.println(wrong == 0 ? "all answers are as due" : wrong + " answers are not as due");
    if (wrong != 0) System.exit(1);
  }
}
