@Section("Promise 9: take")
public final class TakeTest {
  private static final Check CHECK = new Check(TakeTest.class);

  public static void main(String[] args) {
    CHECK.run();
  }

  @Says("The first frame in a node's inbox,")
  static void theFirstThatCameIsTheFirst() {
    StrongBus bus = new StrongBus(3);
    bus.request(0, 9, 1, 200);
    bus.pass(70);
    bus.request(0, 3, 0, 0);
    bus.request(1, 4, 2, 258);
    bus.pass(140);
    CHECK.due("first at 2", bus.take(2), 9 + 2048 + 8192 * 200);
    CHECK.due("second at 2", bus.take(2), 3);
    CHECK.due("third at 2", bus.take(2), 4 + 2048 * 2 + 8192 * 258);
    CHECK.due("a sender does not hear its own: first at 0", bus.take(0), 4 + 2048 * 2 + 8192 * 258);
    CHECK.due("first at 1", bus.take(1), 9 + 2048 + 8192 * 200);
    CHECK.due("second at 1", bus.take(1), 3);
    for (int node = 0; node < 3; node++) {
      int n = node;
      CHECK.badState("no more at " + n, () -> bus.take(n));
    }
  }

  @Says("which goes:")
  static void itGoes() {
    StrongBus bus = new StrongBus(3);
    for (int id = 1; id <= 4; id++) {
      bus.request(0, id, 0, 0);
      bus.pass(60);
    }
    for (int id = 1; id <= 4; id++) {
      CHECK.due("take(1)", bus.take(1), id);
      CHECK.due("count(1, 3)", bus.count(1, 3), 4 - id);
      CHECK.due("the other one's: count(2, 3)", bus.count(2, 3), 4);
    }
  }

  @Says("which goes:")
  static void aFullInboxHasRoomThen() {
    StrongBus bus = new StrongBus(2);
    for (int id = 1; id <= 5; id++) {
      bus.request(0, id, 0, 0);
      bus.pass(60);
    }
    CHECK.due("the first one", bus.take(1), 1);
    bus.request(0, 6, 0, 0);
    bus.pass(60);
    for (int id : new int[] {2, 3, 4, 6}) {
      CHECK.due("then", bus.take(1), id);
    }
  }

  @Says("its ID + 2048 * its bytes + 8192 * their data.")
  static void hasIdBytesAndData() {
    int[][] frames = {{0, 0, 0}, {2047, 0, 0}, {0, 1, 0}, {0, 1, 255}, {2047, 1, 128}, {0, 2, 0}, {0, 2, 1},
        {0, 2, 256}, {2047, 2, 65535}, {1365, 2, 0x00FF}, {1365, 2, 0xFF00}, {1365, 2, 0x1234}, {1365, 2, 0x8001}};
    StrongBus bus = new StrongBus(2);
    for (int[] f : frames) {
      bus.request(0, f[0], f[1], f[2]);
      bus.pass(90);
      CHECK.due("take(1)", bus.take(1), f[0] + 2048 * f[1] + 8192 * f[2]);
    }
  }

  @Says("IllegalArgumentException: there is no such node;")
  static void noSuchNode() {
    for (int nodes : new int[] {2, 3, 4}) {
      StrongBus bus = new StrongBus(nodes);
      for (int node : new int[] {-1, nodes, Integer.MIN_VALUE, Integer.MAX_VALUE}) {
        CHECK.badArgument("take(" + node + ") of " + nodes, () -> bus.take(node));
      }
      bus.request(0, 0, 0, 0);
      bus.pass(Line.TAIL_LAST);
      CHECK.badArgument("take(" + nodes + ") of " + nodes, () -> bus.take(nodes));
      CHECK.due("the last one's", bus.take(nodes - 1), 0);
    }
  }

  @Says("IllegalStateException: the inbox is empty.")
  static void theInboxIsEmpty() {
    StrongBus bus = new StrongBus(2);
    String before = Line.picture(bus, 2);
    CHECK.badState("take(0)", () -> bus.take(0));
    CHECK.badState("take(1)", () -> bus.take(1));
    CHECK.due("a refused call changes nothing: the bus", Line.picture(bus, 2), before);
    bus.request(0, 0, 0, 0);
    bus.pass(Line.TAIL_LAST - 1);
    CHECK.badState("before the last bit of the tail", () -> bus.take(1));
    bus.pass(1);
    CHECK.badState("at the one that sent", () -> bus.take(0));
    CHECK.due("behind it", bus.take(1), 0);
    CHECK.badState("it is empty again", () -> bus.take(1));
    bus.request(0, 5, 0, 0);
    bus.pass(60);
    CHECK.due("and not for ever", bus.take(1), 5);
  }
}
