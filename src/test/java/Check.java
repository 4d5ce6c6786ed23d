/** Collects the answers that are not as due, for one test. */
final class Check {
  private final String test;
  private int made = 0;
  private int wrong = 0;

  Check(String test) {
    this.test = test;
  }

  void due(String call, long got, long want) {
    made++;
    if (got != want) {
      wrong++;
      System.out.println(test + ": " + call + " answered " + got + ", due is " + want);
    }
  }

  void holds(String what, boolean truth) {
    due(what + " (1 holds, 0 does not)", truth ? 1 : 0, 1);
  }

  /** The call must throw just this class: a subclass would be another exception than the document's. */
  void refuses(String call, Class<? extends RuntimeException> kind, Runnable run) {
    Class<?> thrown = null;
    try {
      run.run();
    } catch (RuntimeException e) {
      thrown = e.getClass();
    }
    made++;
    if (thrown != kind) {
      wrong++;
      System.out.println(test + ": " + call + " threw " + thrown + ", due is " + kind);
    }
  }

  void badArgument(String call, Runnable run) {
    refuses(call, IllegalArgumentException.class, run);
  }

  void badState(String call, Runnable run) {
    refuses(call, IllegalStateException.class, run);
  }

  void end() {
    System.out.println(test + ": " + made + " checks, " + wrong + " wrong");
    if (wrong != 0) {
      System.exit(1);
    }
  }
}
