import java.io.IOException;
import java.lang.reflect.Method;
import java.nio.file.DirectoryStream;
import java.nio.file.Files;
import java.nio.file.Path;
import java.util.Map;
import java.util.TreeMap;

/** Whether the tests quote the document as it stands, and leave out no word of what it asks for. */
public final class SentenceTest {
  private static final Check CHECK = new Check(SentenceTest.class);
  private static final Path DOCUMENT = Path.of("..", "shared", "DOC.md");
  private static final Path TESTS = Path.of("src", "test", "java");

  private final Map<String, String> sections = new TreeMap<>();
  private final Map<String, boolean[]> quoted = new TreeMap<>();

  public static void main(String[] args) throws IOException, ClassNotFoundException {
    if (!Files.exists(DOCUMENT)) {
      System.out.println("there is no " + DOCUMENT + " here: the quotes are not looked at");
      return;
    }
    SentenceTest document = new SentenceTest();
    document.split(Files.readString(DOCUMENT));
    document.quoteAll();
    for (String heading : document.sections.keySet()) {
      // Before the first heading stands the name alone.
      if (!heading.startsWith("# ") && !heading.equals("Not promised")) {
        document.lookForGaps(heading);
      }
    }
    CHECK.end();
  }

  private void split(String text) {
    for (String part : text.split("\n## ")) {
      String heading = part.split("\n", 2)[0].strip();
      String body = part.substring(heading.length()).replace("```java", "").replace("```text", "").replace("```", "");
      // The face of a call stands before its promise, and is the FaceTest's.
      body = body.replaceAll("(?m)^`[^`]*`:", "").replaceAll("\\s+", " ").strip();
      sections.put(heading, body);
      quoted.put(heading, new boolean[body.length()]);
    }
  }

  private void quoteAll() throws IOException, ClassNotFoundException {
    try (DirectoryStream<Path> files = Files.newDirectoryStream(TESTS, "*Test.java")) {
      for (Path file : files) {
        Class<?> tests = Class.forName(file.getFileName().toString().replace(".java", ""));
        if (tests.isAnnotationPresent(Section.class)) {
          quote(tests);
        }
      }
    }
  }

  private void quote(Class<?> tests) {
    String heading = tests.getAnnotation(Section.class).value();
    for (Method method : tests.getDeclaredMethods()) {
      if (method.isAnnotationPresent(Says.class)) {
        for (String words : method.getAnnotation(Says.class).value()) {
          CHECK.holds(heading + " has: " + words, sections.containsKey(heading) && mark(heading, words));
        }
      }
    }
  }

  private boolean mark(String heading, String words) {
    int from = sections.get(heading).indexOf(words);
    for (int i = from; from >= 0 && i < from + words.length(); i++) {
      quoted.get(heading)[i] = true;
    }
    return from >= 0;
  }

  private void lookForGaps(String heading) {
    String text = sections.get(heading);
    StringBuilder gap = new StringBuilder();
    for (int i = 0; i < text.length(); i++) {
      if (!quoted.get(heading)[i] && Character.isLetterOrDigit(text.charAt(i))) {
        gap.append(text.charAt(i));
      } else if (gap.length() > 0 && quoted.get(heading)[i]) {
        CHECK.holds(heading + ": a test quotes " + gap, false);
        gap.setLength(0);
      }
    }
    CHECK.holds(heading + ": a test quotes " + gap, gap.length() == 0);
  }
}
