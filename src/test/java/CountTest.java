@Section("Promise 8: count")
public final class CountTest {
  private static final Check CHECK = new Check(CountTest.class);

  public static void main(String[] args) {
    CHECK.run();
  }

  @Says("Of a node: 0 T, 1 R,")
  static void tAndR() {
    StrongBus bus = Line.withErrors(2);
    CHECK.due("T of the one that sent", bus.count(0, 0), 16);
    CHECK.due("R of it", bus.count(0, 1), 0);
    CHECK.due("T of the one that heard", bus.count(1, 0), 0);
    CHECK.due("R of it", bus.count(1, 1), 2);
  }

  @Says("2 how many frames wait,")
  static void framesThatWait() {
    StrongBus bus = new StrongBus(2);
    for (int i = 1; i <= 4; i++) {
      bus.request(0, 0, 0, 0);
      CHECK.due("count(0, 2)", bus.count(0, 2), i);
    }
    for (int i = 3; i >= 0; i--) {
      bus.pass(Line.TAIL_LAST - 1);
      CHECK.due("before the last bit of the tail: count(0, 2)", bus.count(0, 2), i + 1);
      bus.pass(1);
      CHECK.due("behind it: count(0, 2)", bus.count(0, 2), i);
      bus.pass(3);
    }
    CHECK.due("the other node's: count(1, 2)", bus.count(1, 2), 0);
  }

  @Says("3 how many are in its inbox,")
  static void framesInTheInbox() {
    StrongBus bus = withHeard(5);
    CHECK.due("4 at most: count(1, 3)", bus.count(1, 3), 4);
    CHECK.due("of the one that sent: count(0, 3)", bus.count(0, 3), 0);
    for (int i = 3; i >= 0; i--) {
      bus.take(1);
      CHECK.due("one is taken: count(1, 3)", bus.count(1, 3), i);
    }
  }

  @Says("4 how many were lost.")
  static void framesThatWereLost() {
    StrongBus bus = withHeard(4);
    CHECK.due("four came: count(1, 4)", bus.count(1, 4), 0);
    bus = withHeard(7);
    CHECK.due("seven came: count(1, 4)", bus.count(1, 4), 3);
    CHECK.due("of the one that sent: count(0, 4)", bus.count(0, 4), 0);
    bus.take(1);
    CHECK.due("lost ones stay counted: count(1, 4)", bus.count(1, 4), 3);
  }

  @Says("IllegalArgumentException: there is no such node,")
  static void noSuchNode() {
    for (int nodes : new int[] {2, 3, 4}) {
      StrongBus bus = new StrongBus(nodes);
      for (int node : new int[] {-1, nodes, Integer.MIN_VALUE, Integer.MAX_VALUE}) {
        for (int which = 0; which <= 4; which++) {
          int w = which;
          CHECK.badArgument("count(" + node + ", " + w + ") of " + nodes, () -> bus.count(node, w));
        }
      }
      CHECK.badArgument("nor such a number", () -> bus.count(nodes, 5));
      CHECK.due("the last one", bus.count(nodes - 1, 0), 0);
    }
  }

  @Says("or number.")
  static void noSuchNumber() {
    StrongBus bus = new StrongBus(2);
    String before = Line.picture(bus, 2);
    for (int which : new int[] {-1, 5, 6, Integer.MIN_VALUE, Integer.MAX_VALUE}) {
      CHECK.badArgument("count(0, " + which + ")", () -> bus.count(0, which));
    }
    CHECK.due("count(0, 0)", bus.count(0, 0), 0);
    CHECK.due("count(0, 4)", bus.count(0, 4), 0);
    CHECK.due("a refused call changes nothing: the bus", Line.picture(bus, 2), before);
  }

  private static StrongBus withHeard(int frames) {
    StrongBus bus = new StrongBus(2);
    for (int i = 0; i < frames; i++) {
      bus.request(0, 0, 0, 0);
      bus.pass(Line.WITH_PAUSE);
    }
    return bus;
  }
}
