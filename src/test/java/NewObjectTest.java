/** Promise 1. */
public final class NewObjectTest {
  private static final Check CHECK = new Check("promise 1, a new object");

  public static void main(String[] args) {
    for (int nodes = 2; nodes <= 4; nodes++) {
      hasNodes(new StrongBus(nodes), nodes, "new StrongBus(" + nodes + ")");
    }
    keepsItsBounds();
    objectsAreApart();
    CHECK.end();
  }

  private static void hasNodes(StrongBus bus, int nodes, String made) {
    for (int i = 0; i < nodes; i++) {
      CHECK.due(made + ".state(" + i + ")", bus.state(i), Line.IDLE);
      for (int which = 0; which <= 4; which++) {
        CHECK.due(made + ".count(" + i + ", " + which + ")", bus.count(i, which), 0);
      }
    }
    CHECK.badArgument(made + ".state(" + nodes + ")", () -> bus.state(nodes));
    CHECK.badArgument(made + ".state(-1)", () -> bus.state(-1));
    for (int which = 0; which <= 7; which++) {
      CHECK.due(made + ".total(" + which + ")", bus.total(which), 0);
    }
    CHECK.due(made + ".level(0)", bus.level(0), -1);
    CHECK.due(made + ".pass(200)", bus.pass(200), 0);
    for (int i = 0; i < nodes; i++) {
      CHECK.due(made + " stays idle: state(" + i + ")", bus.state(i), Line.IDLE);
    }
  }

  private static void keepsItsBounds() {
    for (int few : new int[] {1, 0, -1, Integer.MIN_VALUE}) {
      hasNodes(new StrongBus(few), 2, "new StrongBus(" + few + ")");
    }
    for (int many : new int[] {5, 100, Integer.MAX_VALUE}) {
      hasNodes(new StrongBus(many), 4, "new StrongBus(" + many + ")");
    }
  }

  private static void objectsAreApart() {
    StrongBus one = new StrongBus(2);
    StrongBus other = new StrongBus(2);
    one.request(0, 7, 0, 0);
    one.disturb(1, 1);
    one.pass(10);
    CHECK.due("other.count(0, 2)", other.count(0, 2), 0);
    CHECK.due("other.total(0)", other.total(0), 0);
    other.pass(1);
    CHECK.due("other.state(1)", other.state(1), Line.IDLE);
  }
}
