/** Texts and states that several tests begin with. */
final class Samples {
  static final String POSTS = "post a foot weighs 2; post b mule weighs 3 under a; post c horse weighs 1 under b;";
  static final String MEN = "man x brave 4 wit 1 coins 7; man y brave 2 wit 6 coins 3; man z brave 9 wit 0 coins 0; man v brave 5 wit 5 coins 999;";
  /** Three POSTS under one another, four MEN, and every number told. */
  static final String ARMY = POSTS + MEN + "front 8 at 3; theirs 12; quarter 2; heed 3;";
  /** As much as an ARMY can tell, and the greatest numbers. */
  static final String GREATEST = "post pa foot weighs 9;post pb foot weighs 9under pa;post pc foot weighs 9under pb;post pd foot weighs 9under pc;"
      + "post pe foot weighs 9under pd;post pf foot weighs 9under pe;man a brave 1wit 9coins 999;man b brave 2wit 9coins 999;man c brave 3wit 9coins 999;"
      + "man d brave 4wit 9coins 999;man e brave 5wit 9coins 999;man f brave 6wit 9coins 999;"
      + "front 40at 37;theirs 999;quarter 13;heed 99;skill 9999;worth 0-courage*load;goes 3;";
  /** The least numbers that an ARMY can tell. */
  static final String LEAST = "post pa foe weighs 1; man a brave 0 wit 0 coins 0; front 4 at 1; theirs 0; quarter 1; heed 0; skill 0; worth 0; goes 0 - 3;";

  private Samples() { }

  /** A new object with something of all that a refused call could change; the TAPE is empty. */
  static void busy(Bench b) {
    b.fresh(ARMY);
    b.war("draw 5; sell x y 1; order push; weeks 2;");
    b.due("draw(3)=yes see(3)=yes see(4)=yes tell(0,1)=yes tell(3,2)=yes mark(1,lay)=yes");
    b.due("order(1)=yes weeks(1)=1 mark(3,lay)=yes order(2)=yes");
  }

  /** The same, with a whole ARMY on the TAPE that nobody has read yet. */
  static void busyWithTape(Bench b) {
    busy(b);
    b.feed("front 9 at 4;");
  }

  /** So many POSTS pa, pb .. that weigh 1, 2 .. */
  static String posts(int many) {
    StringBuilder text = new StringBuilder();
    for (int i = 0; i < many; i++) text.append("post p").append((char) ('a' + i)).append(" foot weighs ").append(i + 1).append(';');
    return text.toString();
  }

  /** So many MEN ma, mb .. who have courage 1, 2 .., no sense, and as many coins. */
  static String men(int many) {
    StringBuilder text = new StringBuilder();
    for (int i = 0; i < many; i++) {
      text.append("man m").append((char) ('a' + i)).append(" brave ").append(i + 1).append(" wit 0 coins ").append(i + 1).append(';');
    }
    return text.toString();
  }

  /** One POST of foot that weighs 1, and a MAN of so much courage at it: so much is OURS. */
  static String strong(int courage) { return "post a foot weighs 1; man m brave " + courage + " wit 0 coins 0;"; }
}
