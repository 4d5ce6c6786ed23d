import java.io.IOException;
import java.lang.reflect.InvocationTargetException;
import java.lang.reflect.Method;
import java.lang.reflect.Modifier;
import java.nio.file.Files;
import java.nio.file.Path;
import java.util.regex.Matcher;
import java.util.regex.Pattern;

/** Whether README.md still tells the truth: its example is run, and it names every call and every test. */
public final class ReadmeTest {
  private static final Check CHECK = new Check(ReadmeTest.class);
  private static final Path TESTS = Path.of("src", "test", "java");
  private static final Pattern MADE = Pattern.compile("StrongBus bus = new StrongBus\\((\\d+)\\);.*");
  private static final Pattern CALL = Pattern.compile("bus\\.(\\w+)\\((.*)\\);\\s*// (?:(-?\\d+|[A-Z]\\w+Exception): )?.*");

  public static void main(String[] args) throws IOException, ReflectiveOperationException {
    String readme = Files.readString(Path.of("README.md"));
    runExample(readme.split("```java\n")[1].split("```")[0]);
    for (Method method : StrongBus.class.getDeclaredMethods()) {
      if (Modifier.isPublic(method.getModifiers())) {
        CHECK.holds("it tells of " + method.getName(), readme.contains("| `" + method.getName() + "("));
      }
    }
    try (var files = Files.newDirectoryStream(TESTS, "*.java")) {
      for (Path file : files) {
        String name = file.getFileName().toString().replace(".java", "");
        CHECK.holds("it tells of " + name, readme.contains("`" + name));
      }
    }
    CHECK.end();
  }

  private static void runExample(String example) throws ReflectiveOperationException {
    StrongBus bus = null;
    for (String line : example.split("\n")) {
      Matcher made = MADE.matcher(line);
      Matcher call = CALL.matcher(line);
      if (made.matches()) {
        bus = new StrongBus(Integer.parseInt(made.group(1)));
      } else if (bus != null && call.matches()) {
        String answer = answerOf(bus, call.group(1), call.group(2).split(", "));
        CHECK.due(line, answer, call.group(3) == null ? "null" : call.group(3));
      } else {
        CHECK.holds("a line of the example is a call: " + line, false);
      }
    }
  }

  private static String answerOf(StrongBus bus, String name, String[] numbers) throws ReflectiveOperationException {
    Class<?>[] types = new Class<?>[numbers.length];
    Object[] arguments = new Object[numbers.length];
    for (int i = 0; i < numbers.length; i++) {
      types[i] = int.class;
      arguments[i] = Integer.valueOf(numbers[i]);
    }
    try {
      return String.valueOf(StrongBus.class.getMethod(name, types).invoke(bus, arguments));
    } catch (InvocationTargetException e) {
      return e.getCause().getClass().getSimpleName();
    }
  }
}
