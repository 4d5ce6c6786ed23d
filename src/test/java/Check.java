import java.lang.reflect.InvocationTargetException;
import java.lang.reflect.Method;
import java.util.Arrays;
import java.util.Comparator;

/** Runs the tests of one class, and collects the answers that are not as due. */
final class Check {
  private final Class<?> tests;
  private String test = "";
  private int made = 0;
  private int wrong = 0;

  Check(Class<?> tests) {
    this.tests = tests;
  }

  /** Every method that quotes the document is a test, so that none can be written and left out. */
  void run() {
    for (Method method : inOrder()) {
      if (method.isAnnotationPresent(Says.class)) {
        runOne(method);
      }
    }
    end();
  }

  /** Tells how the tests went, and ends the program if one of them failed. */
  void end() {
    test = "";
    holds("something is tested", made > 0);
    System.out.println(tests.getName() + ": " + made + " checks, " + wrong + " wrong");
    if (wrong != 0) {
      System.exit(1);
    }
  }

  void due(String call, long got, long want) {
    made++;
    if (got != want) {
      tell(call + " answered " + got + ", due is " + want);
    }
  }

  void due(String what, String got, String want) {
    made++;
    if (!got.equals(want)) {
      tell(what + " is " + got + ", due is " + want);
    }
  }

  void holds(String what, boolean truth) {
    made++;
    if (!truth) {
      tell("does not hold: " + what);
    }
  }

  void badArgument(String call, Runnable run) {
    refuses(call, IllegalArgumentException.class, run);
  }

  void badState(String call, Runnable run) {
    refuses(call, IllegalStateException.class, run);
  }

  /** The call must throw just this class: a subclass would be another exception than the document's. */
  private void refuses(String call, Class<? extends RuntimeException> kind, Runnable run) {
    Class<?> thrown = null;
    try {
      run.run();
    } catch (RuntimeException e) {
      thrown = e.getClass();
    }
    made++;
    if (thrown != kind) {
      tell(call + " threw " + thrown + ", due is " + kind);
    }
  }

  private void runOne(Method method) {
    test = method.getName();
    try {
      method.invoke(null);
    } catch (InvocationTargetException e) {
      tell("a call threw " + e.getCause());
    } catch (IllegalAccessException e) {
      tell("the test can't be called: " + e);
    }
  }

  private void tell(String what) {
    wrong++;
    System.out.println(tests.getName() + "." + test + ": " + what);
  }

  private Method[] inOrder() {
    Method[] methods = tests.getDeclaredMethods();
    Arrays.sort(methods, Comparator.comparing(Method::getName));
    return methods;
  }
}
