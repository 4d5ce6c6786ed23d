/** Promise 9. */
public final class TakeTest {
  private static final Check CHECK = new Check("promise 9, take");

  public static void main(String[] args) {
    takesInTheOrderOfTheWire();
    isFullWithFour();
    hasBothBytes();
    refuses();
    CHECK.end();
  }

  private static void takesInTheOrderOfTheWire() {
    StrongBus bus = new StrongBus(3);
    bus.request(0, 9, 1, 200);
    bus.pass(60);
    bus.request(0, 3, 0, 0);
    bus.request(1, 4, 2, 258);
    bus.pass(120);
    CHECK.due("first at 2", bus.take(2), 9 + 2048 + 8192 * 200);
    CHECK.due("second at 2", bus.take(2), 3);
    CHECK.due("third at 2", bus.take(2), 4 + 2048 * 2 + 8192 * 258);
    CHECK.badState("a fourth at 2", () -> bus.take(2));
    CHECK.due("a sender does not hear its own: first at 0", bus.take(0), 4 + 2048 * 2 + 8192 * 258);
    CHECK.badState("a second at 0", () -> bus.take(0));
    CHECK.due("first at 1", bus.take(1), 9 + 2048 + 8192 * 200);
    CHECK.due("second at 1", bus.take(1), 3);
    CHECK.badState("a third at 1", () -> bus.take(1));
  }

  private static void isFullWithFour() {
    StrongBus bus = new StrongBus(2);
    for (int id = 1; id <= 6; id++) {
      bus.request(0, id, 0, 0);
      CHECK.due("frame " + id + " is sent", bus.pass(60), 1);
    }
    CHECK.due("count(1, 3)", bus.count(1, 3), 4);
    CHECK.due("count(1, 4)", bus.count(1, 4), 2);
    CHECK.due("the first one", bus.take(1), 1);
    CHECK.due("count(1, 3)", bus.count(1, 3), 3);
    bus.request(0, 7, 0, 0);
    bus.pass(60);
    for (int id : new int[] {2, 3, 4, 7}) {
      CHECK.due("then " + id, bus.take(1), id);
    }
    CHECK.badState("no more", () -> bus.take(1));
    CHECK.due("lost ones stay counted", bus.count(1, 4), 2);
  }

  private static void hasBothBytes() {
    StrongBus bus = new StrongBus(2);
    int[] data = {0x00FF, 0xFF00, 0x1234, 0x8001};
    for (int d : data) {
      bus.request(0, 1365, 2, d);
      bus.pass(80);
      CHECK.due("data " + d, bus.take(1), 1365 + 4096 + 8192 * d);
    }
  }

  private static void refuses() {
    StrongBus bus = new StrongBus(2);
    CHECK.badArgument("take(-1)", () -> bus.take(-1));
    CHECK.badArgument("take(2)", () -> bus.take(2));
    CHECK.badState("take(0)", () -> bus.take(0));
    bus.request(0, 0, 0, 0);
    bus.pass(49);
    CHECK.badState("before the last bit of the tail", () -> bus.take(1));
    bus.pass(1);
    CHECK.due("behind it", bus.take(1), 0);
  }
}
