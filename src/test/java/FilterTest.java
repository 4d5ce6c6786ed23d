/** Promise 3. */
public final class FilterTest {
  private static final Check CHECK = new Check("promise 3, filter");

  public static void main(String[] args) {
    takesAllAtFirst();
    takesByMaskAndValue();
    takesNoneWithAValueOutsideItsMask();
    asksAtTheEndOfTheFrame();
    refuses();
    CHECK.end();
  }

  private static int heardOf(StrongBus bus, int id) {
    int before = bus.count(1, 3);
    bus.request(0, id, 0, 0);
    CHECK.due("ID " + id + " is answered, taken or not", bus.pass(60), 1);
    int heard = bus.count(1, 3) - before;
    if (heard == 1) {
      CHECK.due("taken", bus.take(1), id);
    }
    return heard;
  }

  private static void takesAllAtFirst() {
    StrongBus bus = new StrongBus(2);
    for (int id : new int[] {0, 1, 1024, 2047}) {
      CHECK.due("at first, ID " + id, heardOf(bus, id), 1);
    }
  }

  private static void takesByMaskAndValue() {
    StrongBus bus = new StrongBus(2);
    bus.filter(1, 7, 5);
    CHECK.due("7, 5: ID 5", heardOf(bus, 5), 1);
    CHECK.due("7, 5: ID 13", heardOf(bus, 13), 1);
    CHECK.due("7, 5: ID 4", heardOf(bus, 4), 0);
    CHECK.due("7, 5: ID 7", heardOf(bus, 7), 0);
    bus.filter(1, 2047, 2047);
    CHECK.due("2047, 2047: ID 2047", heardOf(bus, 2047), 1);
    CHECK.due("2047, 2047: ID 1023", heardOf(bus, 1023), 0);
    bus.filter(1, 1024, 0);
    CHECK.due("1024, 0: ID 1023", heardOf(bus, 1023), 1);
    CHECK.due("1024, 0: ID 1024", heardOf(bus, 1024), 0);
    bus.filter(1, 0, 0);
    CHECK.due("0, 0: ID 1024", heardOf(bus, 1024), 1);
    CHECK.due("what is not taken is not lost", bus.count(1, 4), 0);
  }

  private static void takesNoneWithAValueOutsideItsMask() {
    StrongBus bus = new StrongBus(2);
    bus.filter(1, 4, 1);
    for (int id : new int[] {0, 1, 4, 5}) {
      CHECK.due("4, 1: ID " + id, heardOf(bus, id), 0);
    }
  }

  private static void asksAtTheEndOfTheFrame() {
    StrongBus bus = new StrongBus(3);
    bus.request(0, 0, 0, 0);
    bus.pass(49);
    bus.filter(1, 1, 1);
    bus.pass(1);
    CHECK.due("set before the last bit of the tail", bus.count(1, 3), 0);
    CHECK.due("of that node alone", bus.count(2, 3), 1);
  }

  private static void refuses() {
    StrongBus bus = new StrongBus(2);
    bus.filter(1, 2047, 6);
    CHECK.badArgument("filter(-1, 0, 0)", () -> bus.filter(-1, 0, 0));
    CHECK.badArgument("filter(2, 0, 0)", () -> bus.filter(2, 0, 0));
    CHECK.badArgument("filter(1, -1, 0)", () -> bus.filter(1, -1, 0));
    CHECK.badArgument("filter(1, 2048, 0)", () -> bus.filter(1, 2048, 0));
    CHECK.badArgument("filter(1, 0, -1)", () -> bus.filter(1, 0, -1));
    CHECK.badArgument("filter(1, 0, 2048)", () -> bus.filter(1, 0, 2048));
    CHECK.due("a refused call changes nothing: ID 7", heardOf(bus, 7), 0);
    CHECK.due("a refused call changes nothing: ID 6", heardOf(bus, 6), 1);
  }
}
