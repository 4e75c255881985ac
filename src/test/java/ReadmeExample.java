import java.io.PrintWriter;
import java.net.URL;
import java.net.URLClassLoader;
import java.nio.file.Files;
import java.nio.file.Path;
import java.util.Comparator;
import java.util.List;
import java.util.Set;
import java.util.TreeSet;
import java.util.regex.Matcher;
import java.util.regex.Pattern;
import java.util.spi.ToolProvider;
import java.util.stream.Stream;

/** The calls that README.md shows, compiled as they stand there, each with the answer that stands behind it. */
public final class ReadmeExample {
  private static final Path PAGE = Path.of("README.md");
  private static final String NEW_OBJECT = "RaffleArmy x = new RaffleArmy();";
  private static final Pattern CALL = Pattern.compile("x\\.(\\w+)\\((.*)\\); *// (-?\\d+|true|false|NoSuchElementException)(: (.+))?");
  private static final Set<String> FACE = new TreeSet<>(List.of(("feed army war post man skill ours draw sell order weeks undo judged first best mean"
      + " loss plan swaps leave pool share tell fair more see orders putOff rests years mark count").split(" ")));
  private static int wrong = 0;
  private static int asked = 0;

  private static void miss(int line, String what) {
    wrong++;
    System.out.println("README.md, line " + line + ": " + what);
  }

  /** Called by the compiled example. */
  public static void due(int line, int got, int want) {
    asked++;
    if (got != want) miss(line, "answers " + got + ", not " + want);
  }

  /** Called by the compiled example. */
  public static void due(int line, boolean got, boolean want) {
    asked++;
    if (got != want) miss(line, "answers " + got + ", not " + want);
  }

  /** Called by the compiled example. */
  public static void thrown(int line, boolean was) {
    asked++;
    if (!was) miss(line, "does not throw");
  }

  /** The page's example as a program; every line of its Java must be a call with an answer. */
  private static String program() throws Exception {
    StringBuilder text = new StringBuilder("public final class Example {\n  public static void main(String[] args) {\n");
    Set<String> shown = new TreeSet<>();
    boolean isJava = false;
    int number = 0;
    for (String line : Files.readAllLines(PAGE)) {
      number++;
      if (line.startsWith("```")) {
        isJava = line.equals("```java");
      } else if (isJava && line.equals(NEW_OBJECT)) {
        text.append(NEW_OBJECT).append('\n');
      } else if (isJava) {
        Matcher m = CALL.matcher(line);
        if (m.matches()) text.append(asked(m, number)).append('\n');
        else miss(number, "is no call with its answer: " + line);
        if (m.matches()) shown.add(m.group(1));
      }
    }
    if (!shown.equals(FACE)) miss(number, "of the face's calls it shows " + shown);
    return text.append("  }\n}\n").toString();
  }

  private static String asked(Matcher m, int number) {
    String call = "x." + m.group(1) + "(" + m.group(2) + ")";
    String answer = m.group(3);
    if (m.group(1).equals("feed")) fed(m.group(2), m.group(5), number);
    if (answer.startsWith("NoSuch")) {
      return "try { " + call + "; ReadmeExample.thrown(" + number + ", false); }"
          + " catch (java.util.NoSuchElementException e) { ReadmeExample.thrown(" + number + ", true); }";
    }
    return "ReadmeExample.due(" + number + ", " + call + ", " + answer + ");";
  }

  /** The text that stands behind a feed is the one that its longs bring. */
  private static void fed(String longs, String told, int number) {
    StringBuilder text = new StringBuilder("\"");
    for (String one : longs.split(", ")) {
      long bytes = Long.decode(one.replace("L", ""));
      for (int shift = 56; shift >= 0; shift -= 8) if ((bytes >> shift & 255) != 0) text.append((char) (bytes >> shift & 255));
    }
    if (!text.append('"').toString().equals(told)) miss(number, "feeds " + text);
  }

  private static void run(Path place) throws Exception {
    Path source = place.resolve("Example.java");
    Files.writeString(source, program());
    ToolProvider javac = ToolProvider.findFirst("javac").orElseThrow();
    PrintWriter out = new PrintWriter(System.out, true);
    int code = javac.run(out, out, "-Xlint:all", "-Werror", "-cp", System.getProperty("java.class.path"), "-d", place.toString(), source.toString());
    if (code != 0) {
      miss(0, "its example does not compile");
      return;
    }
    try (URLClassLoader loader = new URLClassLoader(new URL[] {place.toUri().toURL()})) {
      loader.loadClass("Example").getMethod("main", String[].class).invoke(null, (Object) new String[0]);
    }
  }

  private static void remove(Path place) throws Exception {
    try (Stream<Path> all = Files.walk(place)) {
      for (Path one : all.sorted(Comparator.reverseOrder()).toList()) Files.delete(one);
    }
  }

  public static void main(String[] args) throws Exception {
    Path place = Files.createTempDirectory("readme");
    try {
      run(place);
    } finally {
      remove(place);
    }
    if (asked == 0) miss(0, "shows no call");
    System.out.println(asked + " calls of README.md");
    System.out.println(wrong == 0 ? "all answers are as due" : wrong + " answers are not as due");
    if (wrong != 0) System.exit(1);
  }
}
