@Section("Promise 3: filter")
public final class FilterTest {
  private static final Check CHECK = new Check(FilterTest.class);
  private static final int[] OUTSIDE = {-1, 2048, Integer.MIN_VALUE, Integer.MAX_VALUE};

  public static void main(String[] args) {
    CHECK.run();
  }

  @Says("Which frames a node takes.")
  static void takesByMaskAndValue() {
    StrongBus bus = new StrongBus(2);
    bus.filter(1, 7, 5);
    CHECK.due("7, 5: ID 5", heardOf(bus, 5), 1);
    CHECK.due("7, 5: ID 13", heardOf(bus, 13), 1);
    CHECK.due("7, 5: ID 4", heardOf(bus, 4), 0);
    CHECK.due("7, 5: ID 7", heardOf(bus, 7), 0);
    bus.filter(1, 1024, 0);
    CHECK.due("1024, 0: ID 1023", heardOf(bus, 1023), 1);
    CHECK.due("1024, 0: ID 1024", heardOf(bus, 1024), 0);
    CHECK.due("what is not taken is not lost", bus.count(1, 4), 0);
  }

  @Says("Which frames a node takes.")
  static void theLeastAndTheGreatest() {
    StrongBus bus = new StrongBus(2);
    bus.filter(1, 2047, 2047);
    CHECK.due("2047, 2047: ID 2047", heardOf(bus, 2047), 1);
    CHECK.due("2047, 2047: ID 2046", heardOf(bus, 2046), 0);
    CHECK.due("2047, 2047: ID 1023", heardOf(bus, 1023), 0);
    bus.filter(1, 2047, 0);
    CHECK.due("2047, 0: ID 0", heardOf(bus, 0), 1);
    CHECK.due("2047, 0: ID 1", heardOf(bus, 1), 0);
    CHECK.due("2047, 0: ID 1024", heardOf(bus, 1024), 0);
    bus.filter(1, 0, 0);
    CHECK.due("0, 0: ID 0", heardOf(bus, 0), 1);
    CHECK.due("0, 0: ID 2047", heardOf(bus, 2047), 1);
  }

  @Says("Which frames a node takes.")
  static void takesNoneWithAValueOutsideItsMask() {
    StrongBus bus = new StrongBus(2);
    bus.filter(1, 4, 1);
    for (int id : new int[] {0, 1, 4, 5}) {
      CHECK.due("4, 1: ID " + id, heardOf(bus, id), 0);
    }
    bus.filter(1, 0, 2047);
    CHECK.due("0, 2047: ID 2047", heardOf(bus, 2047), 0);
  }

  @Says("Which frames a node takes.")
  static void isAskedWhenTheFrameHasCome() {
    StrongBus bus = new StrongBus(4);
    bus.request(0, 0, 0, 0);
    bus.pass(Line.TAIL_LAST - 1);
    bus.filter(1, 1, 1);
    bus.pass(1);
    bus.filter(3, 1, 1);
    CHECK.due("set before the last bit of the tail", bus.count(1, 3), 0);
    CHECK.due("another node's", bus.count(2, 3), 1);
    CHECK.due("set behind it", bus.count(3, 3), 1);
  }

  @Says("IllegalArgumentException: there is no such node,")
  static void noSuchNode() {
    for (int nodes = 2; nodes <= 4; nodes++) {
      StrongBus bus = new StrongBus(nodes);
      for (int node : new int[] {-1, nodes, Integer.MIN_VALUE, Integer.MAX_VALUE}) {
        CHECK.badArgument("filter of node " + node + " of " + nodes, () -> bus.filter(node, 0, 0));
      }
      bus.filter(0, 0, 0);
      bus.filter(nodes - 1, 0, 0);
    }
  }

  @Says("or mask")
  static void noSuchMask() {
    StrongBus bus = new StrongBus(2);
    for (int mask : OUTSIDE) {
      CHECK.badArgument("filter with mask " + mask, () -> bus.filter(1, mask, 0));
    }
    bus.filter(1, 0, 0);
    bus.filter(1, 2047, 0);
  }

  @Says("or value is not 0 .. 2047.")
  static void noSuchValue() {
    StrongBus bus = new StrongBus(2);
    for (int value : OUTSIDE) {
      CHECK.badArgument("filter with value " + value, () -> bus.filter(1, 0, value));
      CHECK.badArgument("filter with mask 2047, value " + value, () -> bus.filter(1, 2047, value));
    }
    bus.filter(1, 0, 2047);
    bus.filter(1, 0, 0);
  }

  @Says({"or mask", "or value is not 0 .. 2047."})
  static void aRefusedFilterChangesNothing() {
    StrongBus bus = new StrongBus(2);
    bus.filter(1, 2047, 6);
    CHECK.badArgument("filter(1, 0, 2048)", () -> bus.filter(1, 0, 2048));
    CHECK.badArgument("filter(1, 0, -1)", () -> bus.filter(1, 0, -1));
    CHECK.badArgument("filter(1, 2048, 7)", () -> bus.filter(1, 2048, 7));
    CHECK.badArgument("filter(1, -1, 7)", () -> bus.filter(1, -1, 7));
    CHECK.due("ID 7", heardOf(bus, 7), 0);
    CHECK.due("ID 4", heardOf(bus, 4), 0);
    CHECK.due("ID 6", heardOf(bus, 6), 1);
  }

  private static int heardOf(StrongBus bus, int id) {
    int before = bus.count(1, 3);
    bus.request(0, id, 0, 0);
    CHECK.due("ID " + id + " is answered, taken or not", bus.pass(60), 1);
    int heard = bus.count(1, 3) - before;
    if (heard == 1) {
      CHECK.due("taken", bus.take(1), id);
    }
    return heard;
  }
}
