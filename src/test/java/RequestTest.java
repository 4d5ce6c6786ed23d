@Section("Promise 2: request")
public final class RequestTest {
  private static final Check CHECK = new Check(RequestTest.class);
  private static final int[] FAR = {Integer.MIN_VALUE, Integer.MAX_VALUE};

  public static void main(String[] args) {
    CHECK.run();
  }

  @Says("A frame waits to be sent by a node: how many wait then.")
  static void answersHowManyWait() {
    StrongBus bus = new StrongBus(3);
    for (int i = 1; i <= 4; i++) {
      CHECK.due("request number " + i, bus.request(1, 10 * i, 0, 0), i);
    }
    CHECK.due("another node's", bus.request(2, 5, 0, 0), 1);
    CHECK.due("count(0, 2)", bus.count(0, 2), 0);
    CHECK.due("count(1, 2)", bus.count(1, 2), 4);
    CHECK.due("count(2, 2)", bus.count(2, 2), 1);
  }

  @Says("A frame waits to be sent by a node: how many wait then.")
  static void aFrameOnItsWayWaitsStill() {
    StrongBus bus = new StrongBus(2);
    bus.request(0, 0, 0, 0);
    bus.pass(Line.TAIL_LAST - 1);
    CHECK.due("before the last bit of the tail", bus.request(0, 1, 0, 0), 2);
    bus.pass(1);
    CHECK.due("behind it", bus.request(0, 2, 0, 0), 2);
  }

  @Says("data: the first byte is its lowest eight bits, the second one the next.")
  static void theFirstByteIsTheLowest() {
    CHECK.due("two bytes", Line.coreOf(Line.sent(1365, 2, 0x3A5C), 2).substring(19, 35), "0101110000111010");
    CHECK.due("the first one's lowest bit", Line.coreOf(Line.sent(1365, 2, 1), 2).substring(19, 35), "0000000100000000");
    CHECK.due("the second one's", Line.coreOf(Line.sent(1365, 2, 256), 2).substring(19, 35), "0000000000000001");
    CHECK.due("one byte", Line.coreOf(Line.sent(1365, 1, 0x5C), 1).substring(19, 27), "01011100");
  }

  @Says("IllegalArgumentException: there is no such node")
  static void noSuchNode() {
    for (int nodes = 2; nodes <= 4; nodes++) {
      StrongBus bus = new StrongBus(nodes);
      for (int node : new int[] {-1, nodes, nodes + 1, FAR[0], FAR[1]}) {
        CHECK.badArgument("request at node " + node + " of " + nodes, () -> bus.request(node, 0, 0, 0));
      }
      CHECK.due("request at the last node", bus.request(nodes - 1, 0, 0, 0), 1);
    }
  }

  @Says(", ID,")
  static void noSuchId() {
    StrongBus bus = new StrongBus(2);
    for (int id : new int[] {-1, 2048, FAR[0], FAR[1]}) {
      CHECK.badArgument("request of ID " + id, () -> bus.request(0, id, 0, 0));
    }
    CHECK.due("request of ID 0", bus.request(0, 0, 0, 0), 1);
    CHECK.due("request of ID 2047", bus.request(0, 2047, 0, 0), 2);
  }

  @Says("or number of bytes,")
  static void noSuchNumberOfBytes() {
    StrongBus bus = new StrongBus(2);
    for (int bytes : new int[] {-1, 3, 4, FAR[0], FAR[1]}) {
      CHECK.badArgument("request with " + bytes + " bytes", () -> bus.request(0, 0, bytes, 0));
    }
    for (int bytes = 0; bytes <= 2; bytes++) {
      CHECK.due("request with " + bytes + " bytes", bus.request(0, 0, bytes, 0), bytes + 1);
    }
  }

  @Says("or data is below 0")
  static void dataBelow0() {
    StrongBus bus = new StrongBus(2);
    for (int bytes = 0; bytes <= 2; bytes++) {
      int b = bytes;
      CHECK.badArgument("data -1 in bytes " + b, () -> bus.request(0, 0, b, -1));
      CHECK.badArgument("data MIN in bytes " + b, () -> bus.request(0, 0, b, FAR[0]));
      CHECK.due("data 0 in bytes " + b, bus.request(0, 0, b, 0), b + 1);
    }
  }

  @Says("or has more bits than these;")
  static void dataOfTooManyBits() {
    StrongBus bus = new StrongBus(2);
    int[] most = {0, 255, 65535};
    for (int bytes = 0; bytes <= 2; bytes++) {
      int b = bytes;
      CHECK.badArgument("data " + (most[b] + 1) + " in bytes " + b, () -> bus.request(0, 0, b, most[b] + 1));
      CHECK.badArgument("data MAX in bytes " + b, () -> bus.request(0, 0, b, FAR[1]));
      CHECK.due("data " + most[b] + " in bytes " + b, bus.request(0, 0, b, most[b]), b + 1);
    }
  }

  @Says("IllegalStateException: 4 wait,")
  static void fourWait() {
    StrongBus bus = new StrongBus(2);
    for (int id = 1; id <= 4; id++) {
      bus.request(0, 0, 0, 0);
    }
    CHECK.badState("a fifth request", () -> bus.request(0, 9, 0, 0));
    CHECK.due("request at the other node", bus.request(1, 2047, 0, 0), 1);
    bus.pass(Line.TAIL_LAST - 1);
    CHECK.badState("before the first one was sent", () -> bus.request(0, 9, 0, 0));
    bus.pass(1);
    CHECK.due("there is room again", bus.request(0, 9, 0, 0), 4);
    CHECK.badState("and no more", () -> bus.request(0, 9, 0, 0));
  }

  @Says("or the node is off.")
  static void theNodeIsOff() {
    StrongBus bus = Line.withErrors(31);
    CHECK.due("248 is not off", bus.request(0, 9, 0, 0), 2);
    Line.errAtStart(bus, 0, 1);
    CHECK.due("state(0)", bus.state(0), Line.OFF);
    CHECK.badState("request at an off node", () -> bus.request(0, 0, 0, 0));
    CHECK.due("request at the other node", bus.request(1, 2047, 0, 0), 1);
    bus.pass(99);
    CHECK.badState("before it is idle again", () -> bus.request(0, 0, 0, 0));
    // The other one's frame is heard by none, and keeps the wire busy.
    for (int i = 0; i < 50 && bus.state(0) == Line.OFF; i++) {
      bus.pass(100);
    }
    CHECK.holds("it is on again", bus.state(0) != Line.OFF);
    CHECK.due("then", bus.request(0, 0, 0, 0), 1);
  }

  @Says({"IllegalArgumentException: there is no such node", "IllegalStateException: 4 wait,", "or the node is off."})
  static void aWrongArgumentComesFirst() {
    StrongBus full = new StrongBus(2);
    for (int i = 0; i < 4; i++) {
      full.request(0, 0, 0, 0);
    }
    StrongBus off = Line.withErrors(32);
    for (StrongBus bus : new StrongBus[] {full, off}) {
      CHECK.badState("a right request", () -> bus.request(0, 0, 0, 0));
      CHECK.badArgument("no such ID", () -> bus.request(0, 2048, 0, 0));
      CHECK.badArgument("no such number of bytes", () -> bus.request(0, 0, 3, 0));
      CHECK.badArgument("too much data", () -> bus.request(0, 0, 0, 1));
    }
  }

  @Says({"IllegalArgumentException: there is no such node", "IllegalStateException: 4 wait,"})
  static void aRefusedRequestChangesNothing() {
    StrongBus bus = new StrongBus(2);
    String before = Line.picture(bus, 2);
    CHECK.badArgument("no such ID", () -> bus.request(0, 2048, 0, 0));
    CHECK.badArgument("too much data", () -> bus.request(0, 5, 1, 256));
    CHECK.due("the bus", Line.picture(bus, 2), before);
    CHECK.due("nothing is sent", bus.pass(200), 0);
    for (int id = 11; id <= 14; id++) {
      bus.request(0, id, 0, 0);
    }
    String full = Line.picture(bus, 2);
    CHECK.badState("a fifth request", () -> bus.request(0, 3, 0, 0));
    CHECK.due("the bus", Line.picture(bus, 2), full);
    bus.pass(200);
    bus.pass(200);
    for (int id = 11; id <= 14; id++) {
      CHECK.due("heard", bus.take(1), id);
    }
    CHECK.due("count(1, 3)", bus.count(1, 3), 0);
  }
}
