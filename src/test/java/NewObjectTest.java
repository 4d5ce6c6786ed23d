@Section("Promise 1: A new object")
public final class NewObjectTest {
  private static final Check CHECK = new Check(NewObjectTest.class);

  public static void main(String[] args) {
    CHECK.run();
  }

  /** The document names no exception here, so that a number outside of it is taken as the nearest one. */
  @Says("(at least 2, at most 4)")
  static void aWrongNumberIsTakenAsTheNearest() {
    for (int few : new int[] {1, 0, -1, Integer.MIN_VALUE}) {
      hasNodes(new StrongBus(few), 2, "new StrongBus(" + few + ")");
    }
    for (int many : new int[] {5, 100, Integer.MAX_VALUE}) {
      hasNodes(new StrongBus(many), 4, "new StrongBus(" + many + ")");
    }
  }

  @Says("So many nodes")
  static void hasSoManyNodes() {
    for (int nodes = 2; nodes <= 4; nodes++) {
      hasNodes(new StrongBus(nodes), nodes, "new StrongBus(" + nodes + ")");
    }
  }

  @Says("all idle.")
  static void allAreIdleAndStaySo() {
    for (int nodes = 2; nodes <= 4; nodes++) {
      StrongBus bus = new StrongBus(nodes);
      for (int i = 0; i < nodes; i++) {
        CHECK.due("state(" + i + ")", bus.state(i), Line.IDLE);
      }
      CHECK.due("pass(200)", bus.pass(200), 0);
      for (int i = 0; i < nodes; i++) {
        CHECK.due("state(" + i + ") 200 bit times later", bus.state(i), Line.IDLE);
      }
    }
  }

  @Says("So many nodes")
  static void isEmpty() {
    StrongBus bus = new StrongBus(4);
    for (int node = 0; node < 4; node++) {
      for (int which = 0; which <= 4; which++) {
        CHECK.due("count(" + node + ", " + which + ")", bus.count(node, which), 0);
      }
    }
    for (int which = 0; which <= 7; which++) {
      CHECK.due("total(" + which + ")", bus.total(which), 0);
    }
    CHECK.due("level(0)", bus.level(0), -1);
  }

  @Says("So many nodes")
  static void objectsAreApart() {
    StrongBus one = new StrongBus(2);
    StrongBus other = new StrongBus(2);
    one.request(0, 7, 0, 0);
    one.disturb(1, 1);
    one.filter(0, 1, 1);
    one.pass(10);
    CHECK.due("other.count(0, 2)", other.count(0, 2), 0);
    CHECK.due("other.total(0)", other.total(0), 0);
    CHECK.due("other.level(0)", other.level(0), -1);
    other.pass(1);
    CHECK.due("other.state(1)", other.state(1), Line.IDLE);
    other.request(1, 0, 0, 0);
    other.pass(Line.TAIL_LAST);
    CHECK.due("other.count(0, 3)", other.count(0, 3), 1);
  }

  private static void hasNodes(StrongBus bus, int nodes, String made) {
    CHECK.due(made + ".state(0)", bus.state(0), Line.IDLE);
    CHECK.due(made + ".state(" + (nodes - 1) + ")", bus.state(nodes - 1), Line.IDLE);
    CHECK.badArgument(made + ".state(" + nodes + ")", () -> bus.state(nodes));
    CHECK.badArgument(made + ".state(-1)", () -> bus.state(-1));
    bus.request(nodes - 1, 3, 0, 0);
    bus.pass(60);
    for (int i = 0; i < nodes; i++) {
      CHECK.due(made + ", heard by " + i, bus.count(i, 3), i == nodes - 1 ? 0 : 1);
    }
  }
}
