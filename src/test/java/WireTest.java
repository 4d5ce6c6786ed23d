/** The first paragraph of the terms: levels, the wire, what a node sees. */
@Section("Terms")
public final class WireTest {
  private static final Check CHECK = new Check(WireTest.class);

  public static void main(String[] args) {
    CHECK.run();
  }

  @Says({"LEVELS are 0 (strong) and 1.",
      "In each bit time every node DRIVES one; the level of the wire is 0 if some node drives 0."})
  static void oneNodeIsEnoughFor0() {
    for (int node = 0; node < 4; node++) {
      StrongBus bus = new StrongBus(4);
      bus.request(node, 1365, 0, 0);
      bus.pass(1);
      CHECK.due("node " + node + " drives 0", bus.level(0), 0);
      bus.pass(1);
      CHECK.due("node " + node + " drives 1", bus.level(0), 1);
    }
  }

  @Says("In each bit time every node DRIVES one; the level of the wire is 0 if some node drives 0.")
  static void severalAtOnce() {
    StrongBus all = new StrongBus(4);
    StrongBus one = new StrongBus(4);
    for (int node = 0; node < 4; node++) {
      all.request(node, 1024, 0, 0);
      one.request(node, node == 2 ? 1023 : 1024, 0, 0);
    }
    all.pass(1);
    CHECK.due("all drive 0", all.level(0), 0);
    all.pass(1);
    CHECK.due("all drive 1", all.level(0), 1);
    one.pass(2);
    CHECK.due("one of four drives 0", one.level(0), 0);
  }

  @Says("A node SEES that level, or the other one when it is disturbed in that bit time.")
  static void aDisturbedNodeSeesTheOther() {
    StrongBus bus = new StrongBus(3);
    bus.request(0, 0, 0, 0);
    bus.disturb(1, 1);
    bus.pass(1);
    CHECK.due("0, seen as 1: state(1)", bus.state(1), Line.IDLE);
    CHECK.due("0, seen as 0: state(2)", bus.state(2), Line.HEARING);
    bus.pass(1);
    CHECK.due("the next 0 is seen: state(1)", bus.state(1), Line.HEARING);

    StrongBus quiet = new StrongBus(3);
    quiet.disturb(1, 2);
    quiet.pass(1);
    CHECK.due("1, seen as 1: state(1)", quiet.state(1), Line.IDLE);
    quiet.pass(1);
    CHECK.due("1, seen as 0: state(1)", quiet.state(1), Line.HEARING);
    CHECK.due("1, seen as 1: state(2)", quiet.state(2), Line.IDLE);
    CHECK.due("the wire", quiet.level(0), 1);
  }

  @Says("A node SEES that level, or the other one when it is disturbed in that bit time.")
  static void aSenderSeesItsOwnLevelThroughTheWire() {
    StrongBus bus = new StrongBus(2);
    bus.request(0, 0, 0, 0);
    bus.disturb(0, 1);
    bus.pass(1);
    CHECK.due("its own 0, seen as 1: state(0)", bus.state(0), Line.FLAG);
    CHECK.due("the wire", bus.level(0), 0);
    CHECK.due("the other one sees the start: state(1)", bus.state(1), Line.HEARING);
  }

  @Says("Nodes are 0 .. 3, or fewer.")
  static void theLastNodeIsThere() {
    for (int nodes = 2; nodes <= 4; nodes++) {
      for (int node = 0; node < nodes; node++) {
        StrongBus bus = new StrongBus(nodes);
        bus.request(node, 0, 0, 0);
        CHECK.due("node " + node + " of " + nodes + " sends", bus.pass(Line.TAIL_LAST), 1);
        for (int other = 0; other < nodes; other++) {
          CHECK.due("heard by " + other, bus.count(other, 3), other == node ? 0 : 1);
        }
      }
    }
  }

  @Says("Nodes are 0 .. 3, or fewer.")
  static void thereAreNoMore() {
    for (int nodes : new int[] {2, 3, 4}) {
      StrongBus bus = new StrongBus(nodes);
      for (int node : new int[] {-1, nodes}) {
        CHECK.badArgument("request", () -> bus.request(node, 0, 0, 0));
        CHECK.badArgument("filter", () -> bus.filter(node, 0, 0));
        CHECK.badArgument("disturb", () -> bus.disturb(node, 1));
        CHECK.badArgument("state", () -> bus.state(node));
        CHECK.badArgument("count", () -> bus.count(node, 0));
        CHECK.badArgument("take", () -> bus.take(node));
      }
    }
  }
}
