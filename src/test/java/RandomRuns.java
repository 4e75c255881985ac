import java.util.ArrayList;
import java.util.Arrays;
import java.util.HashMap;
import java.util.HashSet;
import java.util.List;
import java.util.Map;
import java.util.Random;
import java.util.Set;
import java.util.function.Consumer;

/** Random runs of calls, answered by the class and by a plain model of the document that tries everything out. */
public final class RandomRuns {
  private static final int RUNS = 1500;
  private static final int CALLS = 160;
  private static final int LOST = Calls.LOST;
  private static int wrong = 0;
  private static int asked = 0;

  /** A law's E as a tree. */
  interface Expr { int of(int[] facts); }

  static final class Fault extends Exception {
    private static final long serialVersionUID = 1L;
    final int answer;
    Fault(int kind, int place) { super(); answer = kind + 16 * place; }
  }

  /** A token: 'w' word, 'n' number, 's' sign, 'x' none, 'e' the end. */
  static final class Token {
    final char type; final String text; final int place;
    Token(char type, String text, int place) { this.type = type; this.text = text; this.place = place; }
    boolean is(String wanted) { return (type == 'w' || type == 's') && text.equals(wanted); }
  }

  static List<Token> tokens(String text) {
    List<Token> found = new ArrayList<>();
    int i = 0;
    while (i < text.length()) {
      char c = text.charAt(i);
      if (c == ' ' || c == '\n') { i++; continue; }
      int end = i;
      if (c >= 'a' && c <= 'z') {
        while (end < text.length() && text.charAt(end) >= 'a' && text.charAt(end) <= 'z') end++;
        found.add(new Token(end - i > 8 ? 'x' : 'w', text.substring(i, end), i));
      } else if (c >= '0' && c <= '9') {
        while (end < text.length() && text.charAt(end) >= '0' && text.charAt(end) <= '9') end++;
        found.add(new Token(end - i > 4 ? 'x' : 'n', text.substring(i, end), i));
      } else {
        end = i + 1;
        found.add(new Token("()<=+-*;".indexOf(c) >= 0 ? 's' : 'x', text.substring(i, end), i));
      }
      i = end;
    }
    found.add(new Token('e', "", text.length()));
    return found;
  }

  static final Set<String> KEPT = new HashSet<>(Arrays.asList(("post weighs under man brave wit coins front at theirs quarter heed"
      + " skill worth goes draw sell order weeks hold push yield foot horse mule foe not and or").split(" ")));
  static final List<String> KINDS = Arrays.asList("foot", "horse", "mule", "foe");
  static final List<String> ORDERS = Arrays.asList("hold", "push", "yield");

  static final class Reader {
    final List<Token> all; int i = 0;
    Reader(String text) { all = tokens(text); }
    Token now() { return all.get(i); }
    Token take() { return all.get(i++); }
    void need(String word) throws Fault { if (!now().is(word)) throw new Fault(1, now().place); i++; }
    int number(int least, int most) throws Fault {
      Token t = now();
      if (t.type != 'n') throw new Fault(1, t.place);
      int v = Integer.parseInt(t.text);
      if (v < least || v > most) throw new Fault(4, t.place);
      i++;
      return v;
    }
    Token name() throws Fault {
      Token t = now();
      if (t.type != 'w' || KEPT.contains(t.text)) throw new Fault(1, t.place);
      return t;
    }
    int oneOf(List<String> words) throws Fault {
      Token t = now();
      if (t.type != 'w' || !words.contains(t.text)) throw new Fault(1, t.place);
      i++;
      return words.indexOf(t.text);
    }
    Expr e(List<String> facts, int depth) throws Fault {
      Expr left = test(facts, depth);
      while (now().is("and") || now().is("or")) {
        boolean and = take().is("and");
        Expr a = left, b = test(facts, depth);
        left = f -> { boolean x = a.of(f) != 0, y = b.of(f) != 0; return (and ? x && y : x || y) ? 1 : 0; };
      }
      return left;
    }
    Expr test(List<String> facts, int depth) throws Fault {
      Expr a = sum(facts, depth);
      if (!now().is("<") && !now().is("=")) return a;
      boolean less = take().is("<");
      Expr b = sum(facts, depth);
      return f -> (less ? a.of(f) < b.of(f) : a.of(f) == b.of(f)) ? 1 : 0;
    }
    Expr sum(List<String> facts, int depth) throws Fault {
      Expr left = product(facts, depth);
      while (now().is("+") || now().is("-")) {
        boolean plus = take().is("+");
        Expr a = left, b = product(facts, depth);
        left = f -> plus ? a.of(f) + b.of(f) : a.of(f) - b.of(f);
      }
      return left;
    }
    Expr product(List<String> facts, int depth) throws Fault {
      Expr left = part(facts, depth);
      while (now().is("*")) {
        i++;
        Expr a = left, b = part(facts, depth);
        left = f -> a.of(f) * b.of(f);
      }
      return left;
    }
    Expr part(List<String> facts, int depth) throws Fault {
      Token t = now();
      boolean fact = t.type == 'w' && facts.contains(t.text);
      if (t.type != 'n' && !fact && !t.is("not") && !t.is("(")) throw new Fault(1, t.place);
      if (depth == 5) throw new Fault(5, t.place);
      i++;
      if (t.type == 'n') { int v = Integer.parseInt(t.text); return f -> v; }
      if (fact) { int k = facts.indexOf(t.text); return f -> f[k]; }
      if (t.is("not")) { Expr a = part(facts, depth + 1); return f -> a.of(f) == 0 ? 1 : 0; }
      Expr a = e(facts, depth + 1);
      need(")");
      return a;
    }
  }

  static final class Snap {
    int[] manOf; int[] coins; int order, front, week; boolean over;
    List<Integer> seen; List<int[]> told;
  }

  /** The document, as plainly as it can be tried out. */
  static final class Model {
    StringBuilder tape = new StringBuilder();
    List<int[]> posts = new ArrayList<>();   // kind, weighs, under
    List<int[]> men = new ArrayList<>();     // brave, wit, coins
    List<String> postNames = new ArrayList<>(), manNames = new ArrayList<>();
    int cells = 10, at = 5, theirs = 20, quarter = 13, heed = 3;
    Expr skill, worth, goes;
    List<int[]> war = new ArrayList<>();
    Snap now = new Snap();
    List<Snap> past = new ArrayList<>();
    Snap[] marks = new Snap[4];

    Model() { begin(); }

    Snap first() {
      Snap s = new Snap();
      s.manOf = new int[posts.size()];
      for (int i = 0; i < posts.size(); i++) s.manOf[i] = i < men.size() ? i : -1;
      s.coins = new int[men.size()];
      for (int i = 0; i < men.size(); i++) s.coins[i] = men.get(i)[2];
      s.front = at;
      s.seen = new ArrayList<>();
      s.told = new ArrayList<>();
      return s;
    }
    void begin() { now = first(); past.clear(); marks = new Snap[4]; war.clear(); }

    static Snap copy(Snap s) {
      Snap c = new Snap();
      c.manOf = s.manOf.clone(); c.coins = s.coins.clone(); c.order = s.order; c.front = s.front; c.week = s.week; c.over = s.over;
      c.seen = new ArrayList<>(s.seen); c.told = new ArrayList<>(s.told);
      return c;
    }

    int army() {
      String text = tape.toString();
      tape.setLength(0);
      Model m = new Model();
      try { m.readArmy(new Reader(text)); } catch (Fault f) { return f.answer; }
      posts = m.posts; men = m.men; postNames = m.postNames; manNames = m.manNames;
      cells = m.cells; at = m.at; theirs = m.theirs; quarter = m.quarter; heed = m.heed;
      skill = m.skill; worth = m.worth; goes = m.goes;
      begin();
      return 0;
    }
    void readArmy(Reader r) throws Fault {
      Set<String> once = new HashSet<>();
      List<String> facts = Arrays.asList("courage", "sense", "load", "kind");
      while (r.now().type != 'e') {
        Token t = r.now();
        if (t.is("post")) {
          if (posts.size() == 6) throw new Fault(5, t.place);
          r.i++;
          Token n = newName(r);
          int kind = r.oneOf(KINDS);
          r.need("weighs");
          int w = r.number(1, 9);
          int under = -1;
          if (r.now().is("under")) {
            r.i++;
            Token u = r.name();
            under = postNames.indexOf(u.text);
            if (under < 0) throw new Fault(2, u.place);
            r.i++;
          }
          postNames.add(n.text);
          posts.add(new int[] {kind, w, under});
        } else if (t.is("man")) {
          if (men.size() == 6) throw new Fault(5, t.place);
          r.i++;
          Token n = newName(r);
          r.need("brave"); int b = r.number(0, 9);
          r.need("wit"); int w = r.number(0, 9);
          r.need("coins"); int c = r.number(0, 999);
          manNames.add(n.text);
          men.add(new int[] {b, w, c});
        } else {
          if (t.type != 'w' || !Arrays.asList("front", "theirs", "quarter", "heed", "skill", "worth", "goes").contains(t.text)) throw new Fault(1, t.place);
          if (!once.add(t.text)) throw new Fault(3, t.place);
          r.i++;
          switch (t.text) {
            case "front": cells = r.number(4, 40); r.need("at"); at = r.number(1, cells - 1); break;
            case "theirs": theirs = r.number(0, 999); break;
            case "quarter": quarter = r.number(1, 13); break;
            case "heed": heed = r.number(0, 99); break;
            case "skill": skill = r.e(facts, 0); break;
            case "worth": worth = r.e(facts, 0); break;
            default: goes = r.e(Arrays.asList("ours", "against", "what"), 0);
          }
        }
        r.need(";");
      }
    }
    Token newName(Reader r) throws Fault {
      Token n = r.name();
      if (postNames.contains(n.text) || manNames.contains(n.text)) throw new Fault(3, n.place);
      r.i++;
      return n;
    }
    int war() {
      String text = tape.toString();
      tape.setLength(0);
      List<int[]> lines = new ArrayList<>();
      try {
        Reader r = new Reader(text);
        while (r.now().type != 'e') {
          Token t = r.now();
          List<String> words = Arrays.asList("draw", "sell", "order", "weeks");
          if (t.type != 'w' || !words.contains(t.text)) throw new Fault(1, t.place);
          if (lines.size() == 24) throw new Fault(5, t.place);
          r.i++;
          int kind = words.indexOf(t.text);
          if (kind == 0) lines.add(new int[] {0, r.number(0, 9999)});
          if (kind == 1) {
            int s = manOf(r, -1), b = manOf(r, s);
            lines.add(new int[] {1, s, b, r.number(0, 999)});
          }
          if (kind == 2) lines.add(new int[] {2, r.oneOf(ORDERS)});
          if (kind == 3) lines.add(new int[] {3, r.number(1, 13)});
          r.need(";");
        }
      } catch (Fault f) { return f.answer; }
      war = lines;
      return 0;
    }
    int manOf(Reader r, int not) throws Fault {
      Token n = r.name();
      int m = manNames.indexOf(n.text);
      if (m < 0) throw new Fault(2, n.place);
      if (m == not) throw new Fault(3, n.place);
      r.i++;
      return m;
    }

    boolean isPost(int p) { return p >= 0 && p < posts.size(); }
    boolean isMan(int m) { return m >= 0 && m < men.size(); }
    int[] facts(int m, int p) { return new int[] {men.get(m)[0], men.get(m)[1], posts.get(p)[1], posts.get(p)[0]}; }
    int skill(int m, int p) {
      if (!isMan(m) || !isPost(p)) return -1;
      int v = skill != null ? skill.of(facts(m, p)) : posts.get(p)[0] == 1 ? men.get(m)[1] : men.get(m)[0];
      return v < 0 ? 0 : v > 99 ? 99 : v;
    }
    int worth(int m, int p) { return worth != null ? worth.of(facts(m, p)) : posts.get(p)[1]; }
    boolean obeys(int[] manOf, int p) {
      if (manOf[p] < 0) return false;
      int u = posts.get(p)[2];
      return u < 0 || manOf[u] >= 0 && obeys(manOf, u) && skill(manOf[u], u) >= heed;
    }
    int ours(int[] manOf) {
      int sum = 0;
      for (int p = 0; p < posts.size(); p++) {
        if (!obeys(manOf, p)) continue;
        int s = skill(manOf[p], p) * posts.get(p)[1];
        int kind = posts.get(p)[0];
        sum += kind == 2 ? s / 2 : kind == 3 ? -s : s;
      }
      return Math.max(sum, 0);
    }
    int goes(int ours, int against, int what) {
      int v;
      if (goes != null) v = goes.of(new int[] {ours, against, what});
      else if (what == 2) v = -1;
      else if (what == 1) v = ours > against ? 1 : ours < against ? -1 : 0;
      else v = ours * 2 < against ? -1 : 0;
      return Math.max(-3, Math.min(3, v));
    }
    int next(int front, int[] manOf, int order) {
      if (front == 0 || front == cells) return front;
      return Math.max(0, Math.min(cells, front + goes(ours(manOf), theirs, order)));
    }
    int postOf(Snap s, int m) { for (int p = 0; p < s.manOf.length; p++) if (s.manOf[p] == m) return p; return -1; }

    long g;
    int below(int m) { g = (g * 1103515245L + 12345L) & 0x7fffffffL; return (int) ((g >> 16) % m); }
    void deal(Snap s) {
      List<Integer> row = new ArrayList<>();
      for (int i = 0; i < men.size(); i++) row.add(i);
      for (int i = men.size(); i >= 2; i--) { int j = below(i); int x = row.get(i - 1); row.set(i - 1, row.get(j)); row.set(j, x); }
      for (int p = 0; p < s.manOf.length; p++) s.manOf[p] = p < row.size() ? row.get(p) : -1;
      s.over = false;
    }
    boolean canSell(Snap s, int a, int b, int c) {
      return isMan(a) && isMan(b) && a != b && c >= 0 && c <= 999 && postOf(s, a) >= 0 && s.coins[b] >= c;
    }
    void sell(Snap s, int a, int b, int c) {
      int p = postOf(s, a), q = postOf(s, b);
      s.manOf[p] = b;
      if (q >= 0) s.manOf[q] = a;
      s.coins[a] += c;
      s.coins[b] -= c;
    }
    int weeks(Snap s, int many) {
      int n = 0;
      while (n < many && s.front != 0 && s.front != cells && !s.over) {
        s.front = next(s.front, s.manOf, s.order);
        s.week++;
        s.over = s.week % quarter == 0;
        n++;
      }
      return n;
    }
    void keep() { past.add(copy(now)); if (past.size() > 16) past.remove(0); }

    int call(String name, int a, int b, int c) {
      switch (name) {
        case "post": {
          if (!isPost(a) || b < 0 || b > 4) return -1;
          return b < 3 ? posts.get(a)[b] : b == 3 ? now.manOf[a] : obeys(now.manOf, a) ? 1 : 0;
        }
        case "man": {
          if (!isMan(a) || b < 0 || b > 3) return -1;
          return b < 2 ? men.get(a)[b] : b == 2 ? now.coins[a] : postOf(now, a);
        }
        case "skill": return skill(a, b);
        case "ours": return ours(now.manOf);
        case "draw": if (a < 0 || a > 9999) return 0; keep(); g = a; deal(now); return 1;
        case "sell": if (!canSell(now, a, b, c)) return 0; keep(); sell(now, a, b, c); return 1;
        case "order": if (a < 0 || a > 2 || a == now.order) return 0; keep(); now.order = a; return 1;
        case "weeks": {
          if (a < 1 || a > 13 || now.front == 0 || now.front == cells || now.over) return -1;
          keep();
          return weeks(now, a);
        }
        case "undo": {
          if (past.isEmpty()) return 0;
          Snap s = past.remove(past.size() - 1);
          s.seen = now.seen; s.told = now.told;
          now = s;
          return 1;
        }
        case "judged": return judged(a);
        case "first": return firstUnheeding();
        case "best": return best(a);
        case "mean": return mean();
        case "loss": return best(-1) * 1000 - mean();
        case "plan": return plan(a, b);
        case "swaps": return isMan(a) ? swaps()[a] : -2;
        case "leave": {
          int bits = 0; int[] s = swaps();
          for (int m = 0; m < men.size(); m++) if (s[m] != postOf(now, m)) bits |= 1 << m;
          return bits;
        }
        case "pool": return canPool(a) ? pool(list(a)) : -1;
        case "share": return canPool(a) && isMan(b) && (a >> b & 1) == 1 ? share(a, b) : -1;
        case "tell": if (!isMan(a) || !isPost(b) || now.told.size() == 8) return 0; now.told.add(new int[] {a, b}); return 1;
        case "fair": return fair(a, b, 0);
        case "more": {
          if (c < 1 || c > 1000000 || fair(a, b, 0) < 0) return -1;
          for (int m = 0; m <= 8; m++) if (fair(a, b, m) < c) return m;
          return -1;
        }
        case "see": if (a < 0 || a > cells || now.seen.size() == 5) return 0; now.seen.add(a); return 1;
        case "orders": return orders(a);
        case "putOff": return putOff(a);
        case "rests": return rests(a, b, c);
        case "years": return years(a, b, c);
        case "mark": {
          if (a < 0 || a > 3) return 0;
          if (b == 0) { marks[a] = copy(now); return 1; }
          if (marks[a] == null) return 0;
          now = copy(marks[a]);
          past.clear();
          return 1;
        }
        case "count": {
          int coins = 0;
          for (int x : now.coins) coins += x;
          int[] all = {posts.size(), men.size(), cells, now.front, now.week, now.order, coins, war.size(), now.seen.size(),
              now.told.size(), past.size(), tape.length(), now.over ? 1 : 0};
          return a >= 0 && a < all.length ? all[a] : -1;
        }
        default: throw new IllegalStateException(name);
      }
    }

    int judged(int what) {
      if (what < 0 || what > 2) return -2;
      Snap s = first();
      int bad = -1;
      for (int i = 0; i < war.size(); i++) {
        int[] l = war.get(i);
        boolean can = true;
        if (l[0] == 0) { g = l[1]; deal(s); }
        if (l[0] == 1) { can = canSell(s, l[1], l[2], l[3]); if (can) sell(s, l[1], l[2], l[3]); }
        if (l[0] == 2) { can = s.order != l[1]; s.order = l[1]; }
        if (l[0] == 3) can = weeks(s, l[1]) == l[1];
        if (!can && bad < 0) bad = i;
      }
      return what == 0 ? bad : what == 1 ? s.front : s.week;
    }
    int firstUnheeding() {
      for (int p = 0; p < posts.size(); p++) {
        int u = posts.get(p)[2];
        if (now.manOf[p] >= 0 && !obeys(now.manOf, p) && u >= 0 && (now.manOf[u] < 0 || obeys(now.manOf, u))) return p;
      }
      return -1;
    }
    /** All ways: rows of MEN by POSTS, as many held as can be, in the document's order. */
    List<int[]> ways() {
      List<int[]> all = new ArrayList<>();
      int n = posts.size(), k = Math.min(n, men.size());
      int[] row = new int[n];
      fill(all, row, 0, k);
      return all;
    }
    void fill(List<int[]> all, int[] row, int p, int k) {
      if (p == row.length) {
        int held = 0;
        for (int m : row) if (m >= 0) held++;
        if (held == k) all.add(row.clone());
        return;
      }
      for (int m = 0; m <= men.size(); m++) {
        boolean taken = false;
        for (int q = 0; q < p; q++) if (m < men.size() && row[q] == m) taken = true;
        if (taken) continue;
        row[p] = m < men.size() ? m : -1;
        fill(all, row, p + 1, k);
      }
    }
    List<int[]> waysKept; Object waysOf;
    List<int[]> allWays() { if (waysOf != posts) { waysKept = ways(); waysOf = posts; } return waysKept; }
    int best(int what) {
      int most = -1; int[] by = null;
      for (int[] w : allWays()) { int o = ours(w); if (o > most) { most = o; by = w; } }
      return what == -1 ? most : isPost(what) ? by[what] : -2;
    }
    int mean() {
      long sum = 0;
      for (int[] w : allWays()) sum += ours(w);
      return (int) (sum * 1000 / allWays().size());
    }
    int plan(int weeks, int what) {
      if (weeks < 1 || weeks > 5 || what < 0 || what > weeks) return -1;
      List<int[]> all = allWays();
      int[][] moves = new int[all.size()][3];
      for (int i = 0; i < moves.length; i++) { int o = ours(all.get(i)); for (int x = 0; x < 3; x++) moves[i][x] = goes(o, theirs, x); }
      long most = -1; int[] by = null;
      int rows = 1;
      for (int i = 0; i < weeks; i++) rows *= 3;
      for (int code = 0; code < rows; code++) {
        int[] row = new int[weeks];
        int left = code;
        for (int i = weeks - 1; i >= 0; i--) { row[i] = left % 3; left /= 3; }
        long sum = 0;
        for (int[] move : moves) {
          int f = now.front;
          for (int o : row) if (f > 0 && f < cells) f = Math.max(0, Math.min(cells, f + move[o]));
          sum += f;
        }
        if (sum > most) { most = sum; by = row; }
      }
      return what == 0 ? (int) (most * 1000 / all.size()) : by[what - 1];
    }
    /** The posts in the core: no set of men can give its own posts out so that none of it likes his less and one likes his more. */
    int[] swaps() {
      List<Integer> in = new ArrayList<>();
      for (int m = 0; m < men.size(); m++) if (postOf(now, m) >= 0) in.add(m);
      int[] got = new int[men.size()];
      Arrays.fill(got, -1);
      while (!in.isEmpty()) {
        Map<Integer, Integer> looks = new HashMap<>();
        for (int m : in) {
          int best = -1;
          for (int h : in) {
            int p = postOf(now, h);
            if (best < 0 || worth(m, p) > worth(m, best) || worth(m, p) == worth(m, best) && p < best) best = p;
          }
          looks.put(m, best);
        }
        List<Integer> out = new ArrayList<>();
        for (int m : in) {
          int x = m;
          for (int i = 0; i < 10; i++) { x = now.manOf[looks.get(x)]; if (x == m) { out.add(m); break; } }
        }
        for (int m : out) got[m] = looks.get(m);
        in.removeAll(out);
      }
      return got;
    }
    boolean canPool(int bits) {
      if (bits <= 0 || bits >= 1 << men.size()) return false;
      for (int m : list(bits)) if (postOf(now, m) < 0) return false;
      return true;
    }
    List<Integer> list(int bits) {
      List<Integer> all = new ArrayList<>();
      for (int m = 0; m < men.size(); m++) if ((bits >> m & 1) == 1) all.add(m);
      return all;
    }
    static void permute(List<Integer> rest, List<Integer> row, Consumer<List<Integer>> each) {
      if (rest.isEmpty()) { each.accept(row); return; }
      for (int i = 0; i < rest.size(); i++) {
        List<Integer> less = new ArrayList<>(rest);
        row.add(less.remove(i));
        permute(less, row, each);
        row.remove(row.size() - 1);
      }
    }
    Map<Integer, Integer> pools = new HashMap<>();
    int pool(List<Integer> some) {
      int[] most = {0};
      permute(some, new ArrayList<>(), row -> {
        int sum = 0;
        for (int i = 0; i < row.size(); i++) { int p = postOf(now, some.get(i)); sum += skill(row.get(i), p) * posts.get(p)[1]; }
        most[0] = Math.max(most[0], sum);
      });
      return most[0];
    }
    int share(int bits, int man) {
      Map<Integer, Integer> known = new HashMap<>();
      long[] sum = {0, 0};
      permute(list(bits), new ArrayList<>(), row -> {
        int ahead = 0;
        for (int m : row) { if (m == man) break; ahead |= 1 << m; }
        int with = known.computeIfAbsent(ahead | 1 << man, x -> pool(list(x)));
        int without = known.computeIfAbsent(ahead, x -> pool(list(x)));
        sum[0] += with - without;
        sum[1]++;
      });
      return (int) (sum[0] * 1000 / sum[1]);
    }
    int fair(int man, int weighs, int extra) {
      if (!isMan(man) || weighs < 1 || weighs > 9) return -1;
      int n = 0, k = 0, c = 0;
      for (int[] t : now.told) if (t[0] == man) { n++; if (posts.get(t[1])[1] >= weighs) k++; }
      if (n == 0) return -1;
      for (int p = 0; p < Math.min(posts.size(), men.size()); p++) if (posts.get(p)[1] >= weighs) c++;
      java.math.BigInteger all = java.math.BigInteger.valueOf(men.size()).pow(n + extra);
      // ways by how often it came, a draw after the other
      java.math.BigInteger[] by = new java.math.BigInteger[n + extra + 1];
      Arrays.fill(by, java.math.BigInteger.ZERO);
      by[0] = java.math.BigInteger.ONE;
      for (int d = 0; d < n + extra; d++) {
        for (int j = d + 1; j >= 0; j--) {
          by[j] = by[j].multiply(java.math.BigInteger.valueOf(men.size() - c));
          if (j > 0) by[j] = by[j].add(by[j - 1].multiply(java.math.BigInteger.valueOf(c)));
        }
      }
      java.math.BigInteger sum = java.math.BigInteger.ZERO;
      for (int j = k + extra; j <= n + extra; j++) sum = sum.add(by[j]);
      return sum.multiply(java.math.BigInteger.valueOf(1000000)).divide(all).intValueExact();
    }
    int orders(int what) {
      int n = now.seen.size(), rows = 1, fit = 0;
      for (int i = 0; i < n; i++) rows *= 3;
      int[] first = null;
      for (int code = 0; code < rows; code++) {
        int[] row = new int[n];
        int left = code;
        for (int i = n - 1; i >= 0; i--) { row[i] = left % 3; left /= 3; }
        int f = now.front;
        boolean so = true;
        for (int i = 0; i < n; i++) { f = next(f, now.manOf, row[i]); so = so && f == now.seen.get(i); }
        if (so) { fit++; if (first == null) first = row; }
      }
      if (what == -1) return fit;
      return fit > 0 && what >= 0 && what < n ? first[what] : -2;
    }
    int putOff(int what) {
      if (what != 0 && what != 1) return -2;
      final int far = 100000;
      int[] delay = new int[cells + 1];
      Arrays.fill(delay, far);
      delay[0] = 0;
      int first = -1;
      int ours = ours(now.manOf);
      for (int t = 1; t <= 60; t++) {
        int[] d = new int[cells + 1];
        for (int f = 0; f <= cells; f++) {
          d[f] = f == 0 ? 0 : f == cells ? far : -1;
          for (int o = 0; o < 3 && f > 0 && f < cells; o++) {
            int then = delay[Math.max(0, Math.min(cells, f + goes(ours, theirs, o)))];
            int v = then >= far ? far : then + 1;
            if (v > d[f]) { d[f] = v; if (f == now.front) first = o; }
          }
        }
        delay = d;
      }
      if (what == 0) return delay[now.front] >= far ? -1 : delay[now.front];
      return first;
    }
    int rests(int ours, int theirs, int what) {
      if (ours < 0 || ours > 999 || theirs < 0 || theirs > 999 || what < -1) return LOST;
      List<Integer> all = new ArrayList<>();
      for (int a = 0; a < 2; a++) for (int b = 0; b < 2; b++) {
        int here = goes(ours, theirs, a) - goes(theirs, ours, b);
        int we = goes(ours, theirs, 1 - a) - goes(theirs, ours, b);
        int they = goes(ours, theirs, a) - goes(theirs, ours, 1 - b);
        if (we <= here && they >= here) all.add(a * 2 + b);
      }
      return what == -1 ? all.size() : what < all.size() ? all.get(what) : LOST;
    }
    int years(int seed, int quarters, int what) {
      if (seed < 0 || seed > 9999 || quarters < 1 || quarters > 40 || what < 0 || what > 2) return -1;
      Snap s = copy(now);
      g = seed;
      int passed = 0, bad = 0;
      for (int q = 0; q < quarters; q++) {
        deal(s);
        s.order = below(3);
        if (s.manOf.length > 0 && s.manOf[0] >= 0 && skill(s.manOf[0], 0) < heed) bad++;
        for (int w = 0; w < quarter && s.front != 0 && s.front != cells; w++) { s.front = next(s.front, s.manOf, s.order); passed++; }
      }
      return what == 0 ? s.front : what == 1 ? passed : bad;
    }
  }

  /** Random texts of the language, and texts that are nearly of it. */
  static final class Writer {
    final Random r;
    Writer(Random r) { this.r = r; }
    String part(String[] facts, int depth) {
      int k = r.nextInt(8);
      if (k == 0 && depth < 4) return "not " + part(facts, depth + 1);
      if (k <= 2 && depth < 4) return "(" + e(facts, depth + 1) + ")";
      if (k <= 4) return "" + (r.nextInt(6) == 0 ? r.nextInt(10000) : r.nextInt(5));
      return facts[r.nextInt(facts.length)];
    }
    String product(String[] f, int d) { String s = part(f, d); while (r.nextInt(4) == 0) s += " * " + part(f, d); return s; }
    String sum(String[] f, int d) { String s = product(f, d); while (r.nextInt(3) == 0) s += (r.nextBoolean() ? " + " : " - ") + product(f, d); return s; }
    String test(String[] f, int d) { String s = sum(f, d); return r.nextInt(3) == 0 ? s + (r.nextBoolean() ? " < " : "=") + sum(f, d) : s; }
    String e(String[] f, int d) { String s = test(f, d); while (r.nextInt(6) == 0) s += (r.nextBoolean() ? " and " : " or ") + test(f, d); return s; }
    String army() {
      StringBuilder s = new StringBuilder();
      List<String> lines = new ArrayList<>();
      int posts = r.nextInt(7), men = r.nextInt(7);
      if (r.nextInt(3) > 0) { posts = 2 + r.nextInt(4); men = 2 + r.nextInt(4); }
      String[] pn = {"a", "top", "wing", "kind", "ours", "cartcart"};
      for (int i = 0; i < posts; i++) {
        lines.add("post " + pn[i] + " " + KINDS.get(r.nextInt(4)) + " weighs " + (1 + r.nextInt(9)) + (i > 0 && r.nextInt(3) > 0 ? " under " + pn[r.nextInt(i)] : ""));
      }
      String[] mn = {"ann", "bob", "cid", "what", "eve", "f"};
      for (int i = 0; i < men; i++) lines.add("man " + mn[i] + " brave " + r.nextInt(10) + " wit " + r.nextInt(10) + " coins " + r.nextInt(r.nextInt(10) == 0 ? 1000 : 30));
      String[] f = {"courage", "sense", "load", "kind"}, g = {"ours", "against", "what"};
      int cells = 4 + r.nextInt(r.nextBoolean() ? 10 : 37);
      List<String> once = new ArrayList<>();
      if (r.nextInt(3) > 0) once.add("front " + cells + " at " + (1 + r.nextInt(cells - 1)));
      if (r.nextInt(3) > 0) once.add("theirs " + r.nextInt(r.nextInt(4) == 0 ? 1000 : 60));
      if (r.nextInt(3) > 0) once.add("quarter " + (1 + r.nextInt(13)));
      if (r.nextInt(3) > 0) once.add("heed " + (r.nextInt(9) == 0 ? r.nextInt(100) : r.nextInt(8)));
      if (r.nextInt(2) > 0) once.add("skill " + e(f, 0));
      if (r.nextInt(2) > 0) once.add("worth " + e(f, 0));
      if (r.nextInt(2) > 0) once.add("goes " + (r.nextInt(3) == 0 ? "0 - 1 - " : r.nextInt(3) == 0 ? "(ours < against) * 3 - 2 + " : "") + e(g, 0));
      for (String o : once) lines.add(r.nextInt(lines.size() + 1), o);
      for (String l : lines) s.append(l).append(r.nextBoolean() ? " ;" : ";").append(r.nextInt(3) == 0 ? "\n" : r.nextInt(3) == 0 ? "  " : "");
      return s.toString();
    }
    String war(Model m) {
      StringBuilder s = new StringBuilder();
      int lines = r.nextInt(6) == 0 ? 20 + r.nextInt(6) : r.nextInt(12);
      for (int i = 0; i < lines; i++) {
        int k = r.nextInt(4);
        if (k == 1 && m.manNames.size() < 2) k = 0;
        if (k == 0) s.append("draw ").append(r.nextInt(10000));
        if (k == 1) {
          int a = r.nextInt(m.manNames.size()), b = (a + 1 + r.nextInt(m.manNames.size() - 1)) % m.manNames.size();
          s.append("sell ").append(m.manNames.get(a)).append(" ").append(m.manNames.get(b)).append(" ").append(r.nextInt(12));
        }
        if (k == 2) s.append("order ").append(ORDERS.get(r.nextInt(3)));
        if (k == 3) s.append("weeks ").append(1 + r.nextInt(r.nextInt(3) == 0 ? 13 : 4));
        s.append(r.nextBoolean() ? "; " : " ;\n");
      }
      return s.toString();
    }
    /** Spoils a text by a token put in, taken out, changed or doubled, or by a cut. */
    String spoiled(String text) {
      List<Token> all = tokens(text);
      if (all.size() < 2) return text + "x";
      Token t = all.get(r.nextInt(all.size() - 1));
      int end = t.place + t.text.length();
      String[] odd = {"post", "under", "at", "(", ")", "<", "=", "not", "and", "10", "0", "99999", "toolongname", "x", "#", ";", "A", "+", "-", "*",
          "horse", "hold", "weeks", "skill", "courage", "ours", "bob", "top", "1000", "100", "not not not not not", "((((((", "man", "goes 1;", "!"};
      String o = odd[r.nextInt(odd.length)];
      String[] alike = {"ann", "bob", "top", "a", "wing", "zz", "horse", "ours", "load"};
      if (r.nextInt(2) == 0) o = t.type == 'n' ? "" + r.nextInt(r.nextBoolean() ? 12 : 1200) : t.type == 'w' ? alike[r.nextInt(alike.length)] : o;
      switch (r.nextInt(6)) {
        case 0: return text.substring(0, t.place) + o + " " + text.substring(t.place);
        case 1: return text.substring(0, t.place) + text.substring(end);
        case 2: return text.substring(0, t.place) + o + text.substring(end);
        case 3: return text.substring(0, end) + " " + t.text + text.substring(end);
        case 4: {
          int from = text.lastIndexOf(';', t.place - 1) + 1, to = text.indexOf(';', t.place) + 1;
          return to > from ? text.substring(0, to) + text.substring(from, to) + text.substring(to) : text;
        }
        default: return text.substring(0, r.nextInt(text.length()));
      }
    }
  }

  static void feed(RaffleArmy x, Model m, String text, List<String> log) {
    for (int i = 0; i < text.length(); i += 24) {
      long[] three = new long[3];
      for (int j = 0; j < 24; j++) {
        int c = i + j < text.length() ? text.charAt(i + j) : 0;
        three[j / 8] |= (long) c << 56 - 8 * (j % 8);
        if ((c == 10 || c >= 32 && c <= 126) && m.tape.length() < 1000) m.tape.append((char) c);
      }
      due(log, "feed", x.feed(three[0], three[1], three[2]), m.tape.length());
    }
  }

  /** Bytes of any kind, or blanks up to about as many as there is room for. */
  static String rubble(Random r) {
    if (r.nextInt(3) > 0) return " ".repeat(r.nextBoolean() ? 1000 - r.nextInt(400) : r.nextInt(1100));
    StringBuilder s = new StringBuilder();
    for (int i = r.nextInt(40); i > 0; i--) s.append((char) r.nextInt(256));
    return s.toString();
  }

  static boolean due(List<String> log, String call, int got, int want) {
    asked++;
    log.add(call + " = " + got);
    if (got == want) return true;
    wrong++;
    if (wrong <= 5) {
      System.out.println(call + " answered " + got + ", due is " + want + ", behind:");
      for (String l : log) System.out.println("  " + l);
    }
    return false;
  }

  static final String[] NAMES = {"post", "man", "skill", "ours", "draw", "sell", "order", "weeks", "weeks", "undo", "judged", "first", "best", "mean",
      "loss", "plan", "swaps", "leave", "pool", "share", "tell", "fair", "more", "see", "orders", "putOff", "rests", "years", "mark", "count",
      "draw", "order", "sell", "count", "see", "orders", "tell", "fair", "swaps", "pool"};

  static int arg(Random r, String name, int which, Model m) {
    if (r.nextInt(60) == 0) return r.nextBoolean() ? r.nextInt() : r.nextBoolean() ? Integer.MIN_VALUE : Integer.MAX_VALUE;
    if (name.equals("draw") || name.equals("years") && which == 0) return r.nextInt(30) == 0 ? 9999 + r.nextInt(2) : r.nextInt(10000);
    if (name.equals("years") && which == 1) return r.nextInt(42);
    if (name.equals("rests") && which < 2) return r.nextInt(20) == 0 ? 998 + r.nextInt(3) : r.nextInt(30);
    if (name.equals("rests")) return r.nextInt(7) - 2;
    if (name.equals("more") && which == 2) return r.nextInt(4) == 0 ? r.nextInt(1000002) : r.nextInt(40000);
    if ((name.equals("fair") || name.equals("more")) && which == 1) return r.nextInt(11);
    if (name.equals("weeks")) return r.nextInt(10) == 0 ? r.nextInt(16) : r.nextInt(4);
    if (name.equals("see")) return r.nextInt(3) == 0 ? r.nextInt(42) : m.now.front + r.nextInt(7) - 3;
    if (name.equals("sell") && which == 2) return r.nextInt(12) - 1;
    if ((name.equals("pool") || name.equals("share")) && which == 0) return r.nextInt(3) == 0 ? r.nextInt(80) : r.nextInt(1 << m.men.size());
    if (name.equals("mark") && which == 1) return r.nextInt(2);
    if (name.equals("count")) return r.nextInt(15) - 1;
    return r.nextInt(9) - 2;
  }

  public static void main(String[] args) {
    int runs = args.length > 0 ? Integer.parseInt(args[0]) : RUNS;
    int seed = args.length > 1 ? Integer.parseInt(args[1]) : 1;
    int goodArmies = 0, goodWars = 0;
    Map<Integer, Integer> kinds = new HashMap<>();
    for (int run = 0; run < runs && wrong < 5; run++) {
      Random r = new Random(run * 7919L + seed);
      Writer w = new Writer(r);
      RaffleArmy x = new RaffleArmy();
      Model m = new Model();
      List<String> log = new ArrayList<>();
      boolean good = true;
      for (int call = 0; call < CALLS && good; call++) {
        int k = call == 0 ? 0 : r.nextInt(40);
        if (k == 0) {
          String text = w.army();
          if (r.nextInt(2) == 0 && call > 0) text = w.spoiled(text);
          if (r.nextInt(8) == 0 && call > 0) text = rubble(r) + text;
          feed(x, m, text, log);
          log.add(text);
          int want = m.army();
          kinds.merge(want % 16, 1, Integer::sum);
          if (want == 0) goodArmies++;
          good = due(log, "army", x.army(), want);
        } else if (k == 1) {
          String text = w.war(m);
          if (r.nextInt(3) == 0) text = w.spoiled(text);
          if (r.nextInt(8) == 0) text = rubble(r) + text;
          feed(x, m, text, log);
          log.add(text);
          int want = m.war();
          kinds.merge(100 + want % 16, 1, Integer::sum);
          if (want == 0) goodWars++;
          good = due(log, "war", x.war(), want);
        } else {
          String name = NAMES[r.nextInt(NAMES.length)];
          int a = arg(r, name, 0, m), b = arg(r, name, 1, m), c = arg(r, name, 2, m);
          good = due(log, name + "(" + a + ", " + b + ", " + c + ")", Calls.answer(x, name, a, b, c), m.call(name, a, b, c));
        }
      }
    }
    System.out.println(asked + " calls in " + runs + " runs, " + goodArmies + " armies, " + goodWars + " wars, faults by kind (100 +: of wars) " + kinds);
    System.out.println(wrong == 0 ? "all answers are as due" : wrong + " answers are not as due");
    if (wrong != 0) System.exit(1);
  }
}
