import java.lang.reflect.Constructor;
import java.lang.reflect.Field;
import java.lang.reflect.Method;
import java.lang.reflect.Modifier;
import java.util.Arrays;
import java.util.Set;
import java.util.TreeSet;

@Section("The public face")
public final class FaceTest {
  private static final Check CHECK = new Check(FaceTest.class);

  public static void main(String[] args) {
    CHECK.run();
  }

  @Says("public final class StrongBus {")
  static void hasNothingElse() {
    Class<?> bus = StrongBus.class;
    CHECK.holds("the class is public and final",
        Modifier.isPublic(bus.getModifiers()) && Modifier.isFinal(bus.getModifiers()));
    for (Field field : bus.getDeclaredFields()) {
      CHECK.holds(field.getName() + " is private", Modifier.isPrivate(field.getModifiers()));
      CHECK.holds(field.getName() + " is no static state",
          !Modifier.isStatic(field.getModifiers()) || Modifier.isFinal(field.getModifiers()));
    }
    for (Class<?> inside : bus.getDeclaredClasses()) {
      CHECK.holds(inside.getName() + " is static", Modifier.isStatic(inside.getModifiers()));
    }
  }

  @Says({
      "public int request(int node, int id, int bytes, int data) throws IllegalArgumentException, IllegalStateException;",
      "public void filter(int node, int mask, int value) throws IllegalArgumentException;",
      "public void disturb(int node, int n) throws IllegalArgumentException;",
      "public int pass(int n) throws IllegalArgumentException;",
      "public int level(int i);",
      "public int state(int node) throws IllegalArgumentException;",
      "public int count(int node, int which) throws IllegalArgumentException;",
      "public int take(int node) throws IllegalArgumentException, IllegalStateException;",
      "public int total(int which) throws IllegalArgumentException;"})
  static void hasTheseMethods() {
    Set<String> want = new TreeSet<>(Arrays.asList(
        "int request(int, int, int, int) IllegalArgumentException IllegalStateException",
        "void filter(int, int, int) IllegalArgumentException",
        "void disturb(int, int) IllegalArgumentException",
        "int pass(int) IllegalArgumentException",
        "int level(int)",
        "int state(int) IllegalArgumentException",
        "int count(int, int) IllegalArgumentException",
        "int take(int) IllegalArgumentException IllegalStateException",
        "int total(int) IllegalArgumentException"));
    Set<String> got = new TreeSet<>();
    for (Method method : StrongBus.class.getDeclaredMethods()) {
      if (!Modifier.isPrivate(method.getModifiers()) && !method.isSynthetic()) {
        CHECK.holds(method.getName() + " is public", Modifier.isPublic(method.getModifiers()));
        CHECK.holds(method.getName() + " is not static", !Modifier.isStatic(method.getModifiers()));
        got.add(written(method));
      }
    }
    CHECK.holds("the methods are " + want + ": " + got, got.equals(want));
  }

  @Says("public StrongBus(int nodes);")
  static void hasThisConstructor() {
    Constructor<?>[] made = StrongBus.class.getDeclaredConstructors();
    CHECK.due("constructors", made.length, 1);
    CHECK.holds("it takes an int", Arrays.equals(made[0].getParameterTypes(), new Class<?>[] {int.class}));
    CHECK.holds("it is public", Modifier.isPublic(made[0].getModifiers()));
    CHECK.due("it declares no exception", made[0].getExceptionTypes().length, 0);
  }

  private static String written(Method method) {
    StringBuilder text = new StringBuilder(method.getReturnType().getName());
    text.append(' ').append(method.getName()).append('(');
    String between = "";
    for (Class<?> type : method.getParameterTypes()) {
      text.append(between).append(type.getName());
      between = ", ";
    }
    text.append(')');
    for (Class<?> thrown : method.getExceptionTypes()) {
      text.append(' ').append(thrown.getSimpleName());
    }
    return text.toString();
  }
}
