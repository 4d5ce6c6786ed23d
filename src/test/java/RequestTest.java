/** Promise 2. */
public final class RequestTest {
  private static final Check CHECK = new Check("promise 2, request");

  public static void main(String[] args) {
    countsWhatWaits();
    refusesWhatIsNoFrame();
    takesTheEdges();
    refusesAtAnOffNode();
    leastIdComesFirst();
    ofEqualIdsTheFirst();
    aFrameOnItsWayIsNotPutOff();
    CHECK.end();
  }

  private static void countsWhatWaits() {
    StrongBus bus = new StrongBus(2);
    for (int i = 1; i <= 4; i++) {
      CHECK.due("request number " + i, bus.request(1, 10 * i, 0, 0), i);
    }
    CHECK.badState("a fifth request", () -> bus.request(1, 50, 0, 0));
    CHECK.badArgument("a fifth request, and no such ID", () -> bus.request(1, 2048, 0, 0));
    CHECK.due("count(1, 2)", bus.count(1, 2), 4);
    CHECK.due("another node's", bus.request(0, 5, 0, 0), 1);
    bus.pass(1);
    CHECK.due("one that is being sent waits still: count(0, 2)", bus.count(0, 2), 1);
    bus.pass(60);
    CHECK.due("one that was sent waits no more: count(0, 2)", bus.count(0, 2), 0);
    bus.pass(60);
    CHECK.due("count(1, 2)", bus.count(1, 2), 3);
    CHECK.due("there is room again", bus.request(1, 50, 0, 0), 4);
  }

  private static void refusesWhatIsNoFrame() {
    StrongBus bus = new StrongBus(3);
    CHECK.badArgument("request(-1, 0, 0, 0)", () -> bus.request(-1, 0, 0, 0));
    CHECK.badArgument("request(3, 0, 0, 0)", () -> bus.request(3, 0, 0, 0));
    CHECK.badArgument("request(0, -1, 0, 0)", () -> bus.request(0, -1, 0, 0));
    CHECK.badArgument("request(0, 2048, 0, 0)", () -> bus.request(0, 2048, 0, 0));
    CHECK.badArgument("request(0, 0, -1, 0)", () -> bus.request(0, 0, -1, 0));
    CHECK.badArgument("request(0, 0, 3, 0)", () -> bus.request(0, 0, 3, 0));
    CHECK.badArgument("request(0, 0, MAX, 0)", () -> bus.request(0, 0, Integer.MAX_VALUE, 0));
    CHECK.badArgument("request(0, 0, 0, 1)", () -> bus.request(0, 0, 0, 1));
    CHECK.badArgument("request(0, 0, 1, 256)", () -> bus.request(0, 0, 1, 256));
    CHECK.badArgument("request(0, 0, 2, 65536)", () -> bus.request(0, 0, 2, 65536));
    for (int bytes = 0; bytes <= 2; bytes++) {
      int b = bytes;
      CHECK.badArgument("data -1 of " + b, () -> bus.request(0, 0, b, -1));
      CHECK.badArgument("data MIN of " + b, () -> bus.request(0, 0, b, Integer.MIN_VALUE));
      CHECK.badArgument("data MAX of " + b, () -> bus.request(0, 0, b, Integer.MAX_VALUE));
    }
    CHECK.due("nothing waits: count(0, 2)", bus.count(0, 2), 0);
  }

  private static void takesTheEdges() {
    StrongBus bus = new StrongBus(2);
    CHECK.due("request(0, 0, 0, 0)", bus.request(0, 0, 0, 0), 1);
    CHECK.due("request(0, 2047, 2, 65535)", bus.request(0, 2047, 2, 65535), 2);
    CHECK.due("request(0, 1, 1, 255)", bus.request(0, 1, 1, 255), 3);
    CHECK.due("request(0, 2, 2, 0)", bus.request(0, 2, 2, 0), 4);
    bus.pass(200);
    bus.pass(200);
    CHECK.due("first", bus.take(1), 0);
    CHECK.due("second", bus.take(1), 1 + 2048 + 8192 * 255);
    CHECK.due("third", bus.take(1), 2 + 2048 * 2);
    CHECK.due("fourth", bus.take(1), 2047 + 2048 * 2 + 8192 * 65535);
  }

  private static void refusesAtAnOffNode() {
    StrongBus bus = Line.withErrors(31);
    bus.request(0, 9, 0, 0);
    CHECK.due("count(0, 2) before", bus.count(0, 2), 2);
    Line.errAtStart(bus, 0, 1);
    CHECK.due("state(0)", bus.state(0), Line.OFF);
    CHECK.due("nothing waits any more: count(0, 2)", bus.count(0, 2), 0);
    CHECK.badState("request at an off node", () -> bus.request(0, 0, 0, 0));
    CHECK.badArgument("request at an off node, and no such ID", () -> bus.request(0, -1, 0, 0));
    CHECK.due("request at the other node", bus.request(1, 0, 0, 0), 1);
  }

  private static void leastIdComesFirst() {
    StrongBus bus = new StrongBus(2);
    bus.request(0, 300, 0, 0);
    bus.request(0, 20, 0, 0);
    bus.request(0, 1000, 0, 0);
    bus.request(0, 21, 0, 0);
    bus.pass(200);
    bus.pass(50);
    CHECK.due("first", bus.take(1), 20);
    CHECK.due("second", bus.take(1), 21);
    CHECK.due("third", bus.take(1), 300);
    CHECK.due("fourth", bus.take(1), 1000);
  }

  private static void ofEqualIdsTheFirst() {
    StrongBus bus = new StrongBus(2);
    bus.request(0, 77, 1, 9);
    bus.request(0, 76, 1, 1);
    bus.request(0, 77, 1, 4);
    bus.request(0, 76, 1, 8);
    bus.pass(200);
    bus.pass(100);
    CHECK.due("first", bus.take(1), 76 + 2048 + 8192);
    CHECK.due("second", bus.take(1), 76 + 2048 + 8192 * 8);
    CHECK.due("third", bus.take(1), 77 + 2048 + 8192 * 9);
    CHECK.due("fourth", bus.take(1), 77 + 2048 + 8192 * 4);
  }

  private static void aFrameOnItsWayIsNotPutOff() {
    StrongBus bus = new StrongBus(2);
    bus.request(0, 500, 0, 0);
    bus.pass(20);
    bus.request(0, 3, 0, 0);
    bus.pass(180);
    CHECK.due("the one that was on its way", bus.take(1), 500);
    CHECK.due("the one with the less ID", bus.take(1), 3);

    bus.request(0, 500, 0, 0);
    bus.pass(20);
    bus.request(0, 3, 0, 0);
    bus.disturb(0, 1);
    bus.pass(200);
    CHECK.due("after an error the least ID begins", bus.take(1), 3);
    CHECK.due("then the other", bus.take(1), 500);
  }
}
