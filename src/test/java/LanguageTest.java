import java.io.IOException;
import java.lang.reflect.Field;
import java.lang.reflect.Method;
import java.lang.reflect.Modifier;
import java.nio.file.Files;
import java.nio.file.Path;
import java.util.ArrayList;
import java.util.List;
import java.util.Set;
import java.util.TreeSet;
import java.util.regex.Pattern;

/** The rules of ../shared/LANGUAGE.md that can be looked at from outside: by reflection, or by words in the file. */
public final class LanguageTest {
  private static final Check CHECK = new Check(LanguageTest.class);
  private static final Path PROGRAM = Path.of("src", "main", "java", "StrongBus.java");
  // Some of these are allowed in places; the program needs none of them anywhere.
  private static final String[] FORBIDDEN = {"->", "::", "\\bimport\\b", "\\bpackage\\b", "\\btry\\b", "\\bfinally\\b",
      "\\bsynchronized\\b", "\\bassert\\b", "\\bnative\\b", "\\bvolatile\\b", "\\bhashCode\\b", "\\bequals\\b",
      "\\btoString\\b", "\\bgetClass\\b", "\\bSystem\\b", "\\bThread\\b", "Exact\\b", "\\bdouble\\b", "\\bfloat\\b"};
  private static final int MOST_CLASSES = 12;
  private static final int MOST_FIELDS = 20;
  private static final int MOST_PARAMETERS = 7;
  private static final int MOST_LINES = 60;

  public static void main(String[] args) throws IOException {
    List<Class<?>> classes = new ArrayList<>(List.of(StrongBus.class));
    classes.addAll(List.of(StrongBus.class.getDeclaredClasses()));
    CHECK.holds("rule 11: classes", classes.size() <= MOST_CLASSES);
    Set<String> open = openNames();
    for (Class<?> each : classes) {
      fieldsOf(each);
      methodsOf(each, open);
      CHECK.due("rule 2: classes inside " + each.getName(), each.getDeclaredClasses().length,
          each == StrongBus.class ? classes.size() - 1 : 0);
    }
    List<String> lines = withoutComments(Files.readAllLines(PROGRAM));
    words(lines);
    lengths(lines);
    CHECK.end();
  }

  private static Set<String> openNames() {
    Set<String> names = new TreeSet<>();
    for (Method method : StrongBus.class.getDeclaredMethods()) {
      if (Modifier.isPublic(method.getModifiers())) {
        names.add(method.getName());
      }
    }
    return names;
  }

  private static void fieldsOf(Class<?> each) {
    int own = 0;
    for (Field field : each.getDeclaredFields()) {
      String name = each.getName() + "." + field.getName();
      if (Modifier.isStatic(field.getModifiers())) {
        CHECK.holds("rule 5: " + name + " is final", Modifier.isFinal(field.getModifiers()));
        CHECK.holds("rule 5: " + name + " is a plain constant", field.getType().isPrimitive());
      } else {
        own++;
      }
    }
    CHECK.holds("rule 11: fields of " + each.getName(), own <= MOST_FIELDS);
  }

  private static void methodsOf(Class<?> each, Set<String> open) {
    for (Method method : each.getDeclaredMethods()) {
      String name = each.getName() + "." + method.getName();
      CHECK.holds("rule 11: parameters of " + name, method.getParameterCount() <= MOST_PARAMETERS);
      if (!Modifier.isPublic(method.getModifiers())) {
        CHECK.holds("rule 1: " + name + " bears no public name", !open.contains(method.getName()));
      }
    }
  }

  private static List<String> withoutComments(List<String> lines) {
    List<String> left = new ArrayList<>();
    for (String line : lines) {
      left.add(line.replaceAll("//.*|/\\*\\*.*\\*/", ""));
    }
    return left;
  }

  private static void words(List<String> lines) {
    String text = String.join("\n", lines);
    for (String word : FORBIDDEN) {
      CHECK.holds("there is no " + word, !Pattern.compile(word).matcher(text).find());
    }
    CHECK.holds("rule 3: characters 0 to 255", text.chars().allMatch(c -> c <= 255));
  }

  /** A method ends where its own indentation comes again with a brace. */
  private static void lengths(List<String> lines) {
    int methods = 0;
    for (int i = 0; i < lines.size(); i++) {
      String line = lines.get(i);
      if (line.matches(" +[^=]*\\).*\\{") && !line.matches(" *(\\} )?(if|for|else|switch|while)\\b.*")) {
        String end = line.substring(0, line.length() - line.stripLeading().length()) + "}";
        int last = i + lines.subList(i, lines.size()).indexOf(end);
        methods++;
        CHECK.holds("rule 11: lines of " + line.strip(), last > i && last - i < MOST_LINES);
      }
    }
    CHECK.holds("methods were found", methods > 0);
  }
}
