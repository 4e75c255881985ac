import java.io.IOException;
import java.nio.file.Files;
import java.nio.file.Path;
import java.util.ArrayList;
import java.util.List;

/** The document's sentences: each that a test names must stand there, and each that stands there must be named by a test. */
final class Document {
  static final int TERMS = 0;
  static final int PROMISES = 33;
  static final int WHAT_IT_IS = 34;
  private static final Path PLACE = Path.of("../shared/DOC.md");

  private final String[] texts = new String[WHAT_IT_IS + 1];
  private final boolean[][] named = new boolean[WHAT_IT_IS + 1][];
  private final boolean isThere = Files.exists(PLACE);

  Document() {
    StringBuilder[] parts = new StringBuilder[texts.length];
    for (int i = 0; i < parts.length; i++) parts[i] = new StringBuilder();
    int section = -1;
    for (String line : lines()) {
      if (line.startsWith("## ")) section = sectionOf(line);
      else if (section >= 0 && !line.startsWith("```")) parts[section].append(line).append('\n');
    }
    for (int i = 0; i < texts.length; i++) {
      texts[i] = plain(parts[i].toString().replaceAll("==== \\d\\.", " "));
      // a promise begins with its call, which is no sentence
      if (i >= 1 && i <= PROMISES) texts[i] = texts[i].substring(texts[i].indexOf("`: ") + 1);
      named[i] = new boolean[texts[i].length()];
    }
  }

  private List<String> lines() {
    try {
      return isThere ? Files.readAllLines(PLACE) : new ArrayList<>();
    } catch (IOException e) {
      throw new IllegalStateException(e);
    }
  }

  private static int sectionOf(String heading) {
    if (heading.equals("## Terms")) return TERMS;
    if (heading.equals("## What it is")) return WHAT_IT_IS;
    return heading.startsWith("## Promise ") ? Integer.parseInt(heading.substring(11, heading.indexOf(':'))) : -1;
  }

  private static String plain(String text) { return text.replaceAll("\\s+", " ").trim(); }

  static String called(int section) {
    return section == TERMS ? "Terms" : section == WHAT_IT_IS ? "What it is" : "Promise " + section;
  }

  /** Takes a sentence for named; false: the document has none such there. */
  boolean name(int section, String sentence) {
    if (!isThere) return true;
    String wanted = plain(sentence);
    int from = texts[section].indexOf(wanted);
    if (from < 0) return false;
    for (int i = from; i < from + wanted.length(); i++) named[section][i] = true;
    return true;
  }

  /** What of "Terms" and of the promises no test has named. */
  List<String> unnamed() {
    List<String> left = new ArrayList<>();
    for (int section = TERMS; section <= PROMISES; section++) {
      StringBuilder run = new StringBuilder();
      for (int i = 0; i <= texts[section].length(); i++) {
        if (i < texts[section].length() && !named[section][i]) {
          run.append(texts[section].charAt(i));
        } else {
          if (!run.toString().replaceAll("[ .;:,`]", "").isEmpty()) left.add(called(section) + ": " + run);
          run.setLength(0);
        }
      }
    }
    return left;
  }
}
