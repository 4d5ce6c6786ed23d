/** What an object does up to the last call that is promised. */
@Section("What it is")
public final class LongRunTest {
  private static final Check CHECK = new Check(LongRunTest.class);

  public static void main(String[] args) {
    CHECK.run();
  }

  @Says("An object is used for at most 512 calls after it has been made; what later calls answer is free.")
  static void theLongestRun() {
    StrongBus bus = new StrongBus(4);
    for (int i = 0; i < 510; i++) {
      bus.pass(200);
    }
    CHECK.due("call 511", bus.total(0), 102000);
    CHECK.due("call 512", bus.level(63), 1);
  }

  @Says("An object is used for at most 512 calls after it has been made; what later calls answer is free.")
  static void manyFrames() {
    StrongBus bus = new StrongBus(2);
    for (int i = 0; i < 170; i++) {
      int id = i * 577 % 2048;
      CHECK.due("request " + i, bus.request(i % 2, id, 2, i * 385), 1);
      CHECK.due("frame " + i + " is sent", bus.pass(80), 1);
      CHECK.due("frame " + i + " is heard", bus.take(1 - i % 2), id + 4096 + 8192 * (i * 385));
    }
    CHECK.due("call 511", bus.total(1), 170);
    CHECK.due("call 512", bus.total(0), 170 * 80);
  }

  @Says("An object is used for at most 512 calls after it has been made; what later calls answer is free.")
  static void manyDisturbances() {
    StrongBus bus = new StrongBus(2);
    for (int round = 1; round <= 85; round++) {
      bus.disturb(0, 150);
      bus.pass(149);
      CHECK.due("round " + round + ", before: state(0)", bus.state(0), Line.IDLE);
      bus.pass(1);
      CHECK.due("round " + round + ", a false start: state(0)", bus.state(0), Line.HEARING);
      bus.pass(50);
    }
  }
}
