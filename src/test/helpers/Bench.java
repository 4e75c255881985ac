import java.util.ArrayList;
import java.util.List;
import java.util.regex.Matcher;
import java.util.regex.Pattern;

/**
 * Runs of calls told as text, as in "draw(0)=yes post(0,3)=1", under the sentence of the document that they hold.
 * Numbers are told as they are or as none (-1), other (-2), yes, no, lay, back, MIN, MAX; lost is a NoSuchElementException.
 */
final class Bench {
  /** The document leaves free what an object answers behind so many calls. */
  static final int MOST_CALLS = 512;
  private static final int MOST_SHOWN = 40;
  private static final Pattern CALL = Pattern.compile("\\s*(\\w+)\\(([^()]*)\\)=(\\S+)");

  private record Call(String name, long a, long b, long c) {
    String written() { return name + "(" + a + ", " + b + ", " + c + ")"; }
  }
  private record Due(Call call, long answer) { }

  private final Document document = new Document();
  private final List<Call> script = new ArrayList<>();
  private RaffleArmy x = new RaffleArmy();
  private String held = "";
  private int wrong = 0;
  private int asked = 0;
  private int sentences = 0;

  /** The sentence that the tests from here on hold; they begin with a new object. */
  void holds(int section, String sentence) {
    held = Document.called(section) + ": \"" + sentence + "\"";
    sentences++;
    if (!document.name(section, sentence)) miss("the document has no such sentence");
    fresh();
  }

  void fresh() {
    x = new RaffleArmy();
    script.clear();
  }

  /** A new object with an ARMY. */
  void fresh(String army) {
    fresh();
    army(army);
  }

  void army(String text) {
    feed(text);
    due("army()=0");
  }

  void war(String text) {
    feed(text);
    due("war()=0");
  }

  /** Brings a text onto the TAPE, as it is. */
  void feed(String text) {
    for (Call call : feeding(text)) ask(call);
  }

  /** Brings bytes onto the TAPE: how many signs there must be then. */
  void feed(long a, long b, long c, long due) {
    same("feed(" + a + ", " + b + ", " + c + ")", ask(new Call("feed", a, b, c)), due);
  }

  /** Calls with the answers that are due. */
  void due(String calls) {
    for (Due one : parse(calls)) same(one.call.written(), ask(one.call), one.answer);
  }

  /** Calls that change nothing: each by itself answers so, and what later calls show is as before. */
  void refused(String calls) {
    for (Due one : parse(calls)) leavesAll(List.of(one.call), one.answer);
  }

  /** A text, the wrong token of which stands behind a ^, that is no ARMY: its FAULT, and all stays. */
  void armyFault(int kind, String text) { fault("army", kind, text); }

  void warFault(int kind, String text) { fault("war", kind, text); }

  /** That a text is an ARMY, and one more sign or token (behind a ^) makes it none. */
  void armyEdge(String good, int kind, String bad) {
    fresh(good);
    fresh();
    armyFault(kind, bad);
  }

  /** That the object at hand shows what a new one with this ARMY does. */
  void isAsNewWith(String army) {
    List<String> here = showing(script, List.of());
    List<Call> told = new ArrayList<>(feeding(army));
    told.add(new Call("army", 0, 0, 0));
    differ("than a new one with the same ARMY", showing(told, List.of()), here);
  }

  /** How many calls the object at hand has had. */
  int calls() { return script.size(); }

  int end() {
    for (String text : document.unnamed()) {
      held = "the document";
      miss("no test names " + text);
    }
    System.out.println(sentences + " times a sentence, " + asked + " calls");
    System.out.println(wrong == 0 ? "all answers are as due" : wrong + " answers are not as due");
    return wrong == 0 ? 0 : 1;
  }

  void same(String what, long got, long want) {
    asked++;
    if (got != want) miss(what + " answered " + told(got) + ", due is " + told(want));
  }

  private void miss(String what) {
    wrong++;
    if (wrong <= MOST_SHOWN) System.out.println(held + "\n    " + what);
  }

  private static String told(long answer) { return answer == Calls.LOST ? "lost" : Long.toString(answer); }

  private long ask(Call call) {
    script.add(call);
    if (script.size() > MOST_CALLS) miss("more than 512 calls on an object");
    return answer(x, call);
  }

  private void fault(String reader, int kind, String text) {
    int place = text.indexOf('^');
    if (place < 0) throw new IllegalArgumentException("no place in " + text);
    List<Call> more = new ArrayList<>(feeding(text.substring(0, place) + text.substring(place + 1)));
    more.add(new Call(reader, 0, 0, 0));
    String before = held;
    held = before + ", of " + text;
    leavesAll(more, kind + 16L * place);
    held = before;
  }

  /** Runs calls on a copy of the object at hand, the last of which has an answer that is due. */
  private void leavesAll(List<Call> more, long due) {
    Copy copy = new Copy();
    for (Call call : script) copy.ask(call);
    long got = 0;
    for (Call call : more) got = copy.ask(call);
    String last = more.get(more.size() - 1).written();
    same(last, got, due);
    differ("behind " + last, showing(script, List.of()), showing(script, more));
  }

  private void differ(String when, List<String> want, List<String> got) {
    asked++;
    for (int i = 0; i < Math.max(want.size(), got.size()); i++) {
      String due = i < want.size() ? want.get(i) : "nothing";
      String shown = i < got.size() ? got.get(i) : "nothing";
      if (!due.equals(shown)) {
        miss("shows " + shown + " " + when + ", due is " + due);
        return;
      }
    }
  }

  /** What calls show of an object behind these: what is there, some of each reckoning, what can be undone, MARKS, and the TAPE. */
  private List<String> showing(List<Call> told, List<Call> more) {
    Copy copy = new Copy();
    for (Call call : told) copy.ask(call);
    for (Call call : more) copy.ask(call);
    int posts = (int) copy.show("count", 0, 0, 0);
    int men = (int) copy.show("count", 1, 0, 0);
    showPlain(copy, posts, men);
    showReckoned(copy, men);
    for (int i = 0, undone = 1; i < 17 && undone == 1; i++) undone = showState(copy, posts, "undo", 0, 0);
    for (int i = 0; i < 4; i++) showState(copy, posts, "mark", i, 1);
    for (String call : new String[] {"army", "war"}) copy.show(call, 0, 0, 0);
    for (int i = 0; i < 5; i++) copy.show("count", i, 0, 0);
    if (copy.calls > MOST_CALLS) miss("more than 512 calls to show all: " + copy.calls);
    return copy.shown;
  }

  /** An object that is asked for all that it shows. */
  private static final class Copy {
    private final RaffleArmy object = new RaffleArmy();
    private final List<String> shown = new ArrayList<>();
    private int calls = 0;

    long ask(Call call) {
      calls++;
      return answer(object, call);
    }

    long show(String name, int a, int b, int c) {
      Call call = new Call(name, a, b, c);
      long answer = ask(call);
      shown.add(call.written() + " = " + told(answer));
      return answer;
    }
  }

  private static void showPlain(Copy copy, int posts, int men) {
    for (int i = 2; i < 13; i++) copy.show("count", i, 0, 0);
    for (int p = 0; p < posts; p++) for (int i = 0; i < 5; i++) copy.show("post", p, i, 0);
    for (int m = 0; m < men; m++) for (int i = 0; i < 4; i++) copy.show("man", m, i, 0);
    for (int m = 0; m < men; m++) for (int p = 0; p < posts; p++) copy.show("skill", m, p, 0);
    for (int i = 0; i < 3; i++) copy.show("judged", i, 0, 0);
    for (String call : new String[] {"ours", "first", "mean", "loss", "leave"}) copy.show(call, 0, 0, 0);
  }

  private static void showReckoned(Copy copy, int men) {
    int held = 0;
    for (int m = 0; m < men; m++) if (copy.show("man", m, 3, 0) >= 0) held |= 1 << m;
    copy.show("best", -1, 0, 0);
    copy.show("plan", 3, 0, 0);
    copy.show("plan", 3, 2, 0);
    copy.show("pool", held, 0, 0);
    for (int m = 0; m < men; m++) {
      copy.show("swaps", m, 0, 0);
      copy.show("share", held, m, 0);
      copy.show("fair", m, 3, 0);
      copy.show("more", m, 2, 300000);
    }
    for (int i = -1; i < 5; i++) copy.show("orders", i, 0, 0);
    for (int i = 0; i < 2; i++) copy.show("putOff", i, 0, 0);
    copy.show("rests", 12, 15, 0);
    for (int i = 0; i < 3; i++) copy.show("years", 7, 3, i);
  }

  private static int showState(Copy copy, int posts, String call, int a, int b) {
    if (copy.show(call, a, b, 0) == 0) return 0;
    for (int i : new int[] {3, 4, 5, 8, 9, 12}) copy.show("count", i, 0, 0);
    for (int p = 0; p < Math.min(posts, 2); p++) copy.show("post", p, 3, 0);
    copy.show("man", 0, 2, 0);
    return 1;
  }

  private static List<Call> feeding(String text) {
    List<Call> calls = new ArrayList<>();
    for (int i = 0; i < text.length(); i += 24) {
      long[] three = new long[3];
      for (int j = 0; j < 24 && i + j < text.length(); j++) three[j / 8] |= (long) text.charAt(i + j) << 56 - 8 * (j % 8);
      calls.add(new Call("feed", three[0], three[1], three[2]));
    }
    return calls;
  }

  private static List<Due> parse(String calls) {
    List<Due> found = new ArrayList<>();
    Matcher m = CALL.matcher(calls);
    int end = 0;
    while (end < calls.length() && m.find(end) && m.start() == end) {
      String[] words = m.group(2).isBlank() ? new String[0] : m.group(2).trim().split("\\s*,\\s*");
      long[] numbers = new long[3];
      for (int i = 0; i < words.length; i++) numbers[i] = number(words[i]);
      found.add(new Due(new Call(m.group(1), numbers[0], numbers[1], numbers[2]), number(m.group(3))));
      end = m.end();
    }
    if (!calls.substring(end).isBlank() || found.isEmpty()) throw new IllegalArgumentException("can't read " + calls.substring(end));
    return found;
  }

  private static long number(String word) {
    switch (word) {
      case "none": return -1;
      case "other": return -2;
      case "yes": case "back": return 1;
      case "no": case "lay": return 0;
      case "MIN": return Integer.MIN_VALUE;
      case "MAX": return Integer.MAX_VALUE;
      case "lost": return Calls.LOST;
      default: return Long.parseLong(word);
    }
  }

  private static long answer(RaffleArmy x, Call call) {
    if (call.name.equals("feed")) return x.feed(call.a, call.b, call.c);
    return Calls.answer(x, call.name, (int) call.a, (int) call.b, (int) call.c);
  }
}
