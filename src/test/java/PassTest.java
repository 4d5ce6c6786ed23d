@Section("Promise 5: pass")
public final class PassTest {
  private static final Check CHECK = new Check(PassTest.class);

  public static void main(String[] args) {
    CHECK.run();
  }

  @Says("n bit times:")
  static void passesSoManyBitTimes() {
    StrongBus bus = new StrongBus(2);
    bus.pass(1);
    CHECK.due("pass(1): total(0)", bus.total(0), 1);
    bus.pass(200);
    CHECK.due("pass(200): total(0)", bus.total(0), 201);
    bus.pass(199);
    CHECK.due("pass(199): total(0)", bus.total(0), 400);
  }

  @Says("n bit times:")
  static void manyAtOnceAreTheSameAsOneByOne() {
    StrongBus once = new StrongBus(3);
    StrongBus single = new StrongBus(3);
    for (StrongBus bus : new StrongBus[] {once, single}) {
      bus.request(0, 77, 2, 4711);
      bus.request(1, 76, 1, 9);
      bus.disturb(2, 30);
      bus.disturb(0, 111);
    }
    once.pass(150);
    for (int i = 0; i < 150; i++) {
      single.pass(1);
    }
    CHECK.due("the bus", Line.picture(single, 3), Line.picture(once, 3));
  }

  @Says("how many frames were sent in them.")
  static void countsTheFramesOfThisCall() {
    StrongBus bus = new StrongBus(2);
    for (int i = 0; i < 4; i++) {
      bus.request(0, 0, 0, 0);
    }
    CHECK.due("up to the last but one of the tail", bus.pass(49), 0);
    CHECK.due("the last one", bus.pass(1), 1);
    CHECK.due("the pause, and the next one but for its last bit", bus.pass(52), 0);
    CHECK.due("its last bit, and a whole one", bus.pass(54), 2);
    CHECK.due("the last one but for its last bit", bus.pass(52), 0);
    CHECK.due("its last bit", bus.pass(1), 1);
    CHECK.due("nothing waits", bus.pass(200), 0);
  }

  @Says("how many frames were sent in them.")
  static void threeInOneCall() {
    StrongBus bus = new StrongBus(4);
    bus.request(0, 0, 0, 0);
    bus.request(2, 0, 0, 0);
    bus.request(3, 0, 0, 0);
    bus.request(3, 1, 0, 0);
    CHECK.due("three at once, and one behind them", bus.pass(200), 4);
  }

  @Says("how many frames were sent in them.")
  static void aBrokenFrameIsNotSent() {
    StrongBus bus = new StrongBus(2);
    bus.request(0, 0, 0, 0);
    bus.disturb(0, Line.TAIL_LAST);
    CHECK.due("BIT in the last bit of the tail", bus.pass(60), 0);
    CHECK.due("then it is sent", bus.pass(100), 1);
  }

  @Says("IllegalArgumentException: n is not 1 .. 200.")
  static void tooFewOrTooMany() {
    StrongBus bus = new StrongBus(2);
    bus.request(0, 0, 0, 0);
    bus.pass(3);
    String before = Line.picture(bus, 2);
    for (int n : new int[] {0, -1, -200, 201, Integer.MAX_VALUE, Integer.MIN_VALUE}) {
      CHECK.badArgument("pass(" + n + ")", () -> bus.pass(n));
    }
    CHECK.due("a refused call changes nothing: the bus", Line.picture(bus, 2), before);
    CHECK.due("pass(1)", bus.pass(1), 0);
    CHECK.due("pass(200)", bus.pass(200), 1);
  }
}
