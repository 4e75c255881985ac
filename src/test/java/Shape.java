import java.lang.reflect.Array;
import java.lang.reflect.Constructor;
import java.lang.reflect.Field;
import java.lang.reflect.Method;
import java.lang.reflect.Modifier;
import java.nio.file.Files;
import java.nio.file.Path;
import java.util.ArrayDeque;
import java.util.Arrays;
import java.util.Collections;
import java.util.Deque;
import java.util.IdentityHashMap;
import java.util.NoSuchElementException;
import java.util.Set;
import java.util.TreeSet;
import java.util.regex.Matcher;
import java.util.regex.Pattern;

/** The class's face as the document has it, its size in the room, and what of LANGUAGE.md a test can see. */
public final class Shape {
  private static final String[] FACE = {
    "int feed(long,long,long)", "int army()", "int war()", "int post(int,int)", "int man(int,int)", "int skill(int,int)", "int ours()",
    "boolean draw(int)", "boolean sell(int,int,int)", "boolean order(int)", "int weeks(int)", "boolean undo()", "int judged(int)", "int first()",
    "int best(int)", "int mean()", "int loss()", "int plan(int,int)", "int swaps(int)", "int leave()", "int pool(int)", "int share(int,int)",
    "boolean tell(int,int)", "int fair(int,int)", "int more(int,int,int)", "boolean see(int)", "int orders(int)", "int putOff(int)",
    "int rests(int,int,int)", "int years(int,int,int)", "boolean mark(int,boolean)", "int count(int)"};
  private static final String[] REST = {"import java.util.NoSuchElementException;", "public final class RaffleArmy {",
    "public static final int NONE = -1;", "public RaffleArmy();", "}"};
  private static final Pattern CALL = Pattern.compile("public (\\w+ \\w+)\\(([^()]*)\\)( throws NoSuchElementException)?;");
  private static final int MOST_OBJECTS = 160;
  private static final int MOST_ELEMENTS = 6000;
  private static int wrong = 0;

  private static void must(boolean good, String what) {
    if (!good) {
      wrong++;
      System.out.println("not so: " + what);
    }
  }

  private static String written(Method m) {
    StringBuilder s = new StringBuilder(m.getReturnType().getName() + " " + m.getName() + "(");
    for (int i = 0; i < m.getParameterCount(); i++) s.append(i > 0 ? "," : "").append(m.getParameterTypes()[i].getName());
    return s + ")";
  }

  private static void face() throws Exception {
    Class<?> c = RaffleArmy.class;
    must(Modifier.isPublic(c.getModifiers()) && Modifier.isFinal(c.getModifiers()), "the class is public and final");
    Set<String> found = new TreeSet<>();
    Set<String> names = new TreeSet<>();
    for (Method m : c.getDeclaredMethods()) {
      if (Modifier.isPublic(m.getModifiers())) {
        found.add(written(m));
        names.add(m.getName());
        must(!Modifier.isStatic(m.getModifiers()), m + " is not static");
      }
    }
    must(found.equals(new TreeSet<>(Arrays.asList(FACE))), "the face is the document's: " + found);
    Method rests = c.getMethod("rests", int.class, int.class, int.class);
    must(Arrays.equals(rests.getExceptionTypes(), new Class<?>[] {NoSuchElementException.class}), "rests names what it throws");
    for (Method m : c.getDeclaredMethods()) {
      boolean shown = Modifier.isPublic(m.getModifiers());
      must(shown || m.isSynthetic() || Modifier.isPrivate(m.getModifiers()) && !names.contains(m.getName()), m + " is private, of another name");
    }
    for (Field f : c.getDeclaredFields()) {
      boolean shown = f.getName().equals("NONE");
      must(shown ? Modifier.isPublic(f.getModifiers()) : Modifier.isPrivate(f.getModifiers()), f + " is private");
      must(!Modifier.isStatic(f.getModifiers()) || Modifier.isFinal(f.getModifiers()), f + " is final if static");
    }
    Field none = c.getField("NONE");
    must(none.getType() == int.class && Modifier.isStatic(none.getModifiers()) && none.getInt(null) == -1, "NONE is the int -1");
    for (Method m : c.getDeclaredMethods()) must(m.getName().equals("rests") || m.getExceptionTypes().length == 0, m + " names no exception");
    Constructor<?>[] made = c.getDeclaredConstructors();
    must(made.length == 1 && Modifier.isPublic(made[0].getModifiers()) && made[0].getParameterCount() == 0, "one public constructor");
    inside(names);
  }

  /** The list above against the document's own block, names of parameters left out. */
  private static void faceAsTold() throws Exception {
    Path document = Path.of("../shared/DOC.md");
    if (!Files.exists(document)) return;
    Set<String> told = new TreeSet<>();
    Set<String> rest = new TreeSet<>();
    boolean isFace = false;
    for (String line : Files.readAllLines(document)) {
      String plain = line.trim();
      if (line.startsWith("## ")) isFace = line.equals("## The public face");
      if (!isFace || plain.isEmpty() || plain.startsWith("## ") || plain.startsWith("```")) continue;
      Matcher call = CALL.matcher(plain);
      if (call.matches()) told.add(call.group(1) + "(" + call.group(2).replaceAll(" \\w+(,|$)", "$1").replace(" ", "") + ")");
      else rest.add(plain);
    }
    must(told.equals(new TreeSet<>(Arrays.asList(FACE))), "the document's calls are those of this test: " + told);
    must(rest.equals(new TreeSet<>(Arrays.asList(REST))), "and the rest of its face, too: " + rest);
  }

  private static void inside(Set<String> names) {
    Class<?>[] classes = RaffleArmy.class.getDeclaredClasses();
    must(classes.length <= 11, "twelve classes at most");
    for (Class<?> c : classes) {
      must(Modifier.isStatic(c.getModifiers()), c + " is static");
      int fields = 0;
      for (Field f : c.getDeclaredFields()) {
        if (!Modifier.isStatic(f.getModifiers())) fields++;
        must(!Modifier.isStatic(f.getModifiers()) || Modifier.isFinal(f.getModifiers()), f + " is final if static");
      }
      must(fields <= 20, c + " has twenty fields at most");
      for (Method m : c.getDeclaredMethods()) {
        must(m.getParameterCount() <= 7, m + " has seven parameters at most");
        must(!names.contains(m.getName()), m + " does not bear a public one's name");
      }
    }
  }

  /** Counts what a new object brings into the room: objects and arrays, fields and elements. */
  private static void size() throws Exception {
    Set<Object> seen = Collections.newSetFromMap(new IdentityHashMap<>());
    Deque<Object> left = new ArrayDeque<>();
    left.add(new RaffleArmy());
    int elements = 0;
    while (!left.isEmpty()) {
      Object o = left.pop();
      if (o instanceof Enum || !seen.add(o)) continue;
      if (o.getClass().isArray()) {
        elements += Array.getLength(o);
        if (o instanceof Object[]) for (Object e : (Object[]) o) if (e != null) left.add(e);
        continue;
      }
      for (Field f : o.getClass().getDeclaredFields()) {
        if (Modifier.isStatic(f.getModifiers())) continue;
        elements++;
        f.setAccessible(true);
        if (!f.getType().isPrimitive() && f.get(o) != null) left.add(f.get(o));
      }
    }
    System.out.println("a new object: " + seen.size() + " objects and arrays, " + elements + " fields and elements");
    must(seen.size() <= MOST_OBJECTS && elements <= MOST_ELEMENTS, "a new object is small");
  }

  /** Words that the language's rules leave out, and methods that are too long. */
  private static void text() throws Exception {
    String[] out = {"->", "::", "finally", "assert ", "synchronized", "Exact(", "ordinal(", ".hashCode(", "toString(", "Math.sqrt", "static {",
      "catch", "double", "float", "HashMap", "System.", "Random", "Object ", "Stream", "var ", "record ", "package "};
    int number = 0, begun = 0;
    String head = "";
    for (String line : Files.readAllLines(Path.of("src/main/java/RaffleArmy.java"))) {
      number++;
      for (String o : out) must(!line.contains(o), "line " + number + " is without " + o);
      for (int i = 0; i < line.length(); i++) must(line.charAt(i) >= 32 && line.charAt(i) < 127, "line " + number + " has plain signs");
      if (line.matches(" {4}( {4})?[a-zA-Z].*\\(.*\\{")) { begun = number; head = line; }
      if (line.matches(" {4}( {4})?\\}") && begun > 0) {
        must(number - begun < 60, head + " is short");
        begun = 0;
      }
    }
    must(number > 0, "there is a text");
  }

  public static void main(String[] args) throws Exception {
    face();
    faceAsTold();
    size();
    text();
    System.out.println(wrong == 0 ? "all is so" : wrong + " are not so");
    if (wrong != 0) System.exit(1);
  }
}
