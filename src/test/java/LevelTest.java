/** Promise 6. */
public final class LevelTest {
  private static final Check CHECK = new Check("promise 6, level");

  public static void main(String[] args) {
    thereWasNone();
    goesBackOverAFrame();
    keepsSixtyFour();
    isTheWiresNotTheNodes();
    CHECK.end();
  }

  private static void thereWasNone() {
    StrongBus bus = new StrongBus(2);
    CHECK.due("level(0) of a new one", bus.level(0), -1);
    bus.pass(5);
    CHECK.due("level(4) after 5", bus.level(4), 1);
    CHECK.due("level(5) after 5", bus.level(5), -1);
    CHECK.due("level(63) after 5", bus.level(63), -1);
    CHECK.due("level(-1) after 5", bus.level(-1), -1);
  }

  private static void goesBackOverAFrame() {
    StrongBus bus = new StrongBus(2);
    int[] frame = Line.frame(345, 0, 0);
    bus.request(1, 345, 0, 0);
    bus.pass(frame.length);
    for (int i = 0; i < frame.length; i++) {
      CHECK.due("level(" + i + ") behind the frame", bus.level(i), frame[frame.length - 1 - i]);
    }
    CHECK.due("level behind all that was", bus.level(frame.length), -1);
  }

  private static void keepsSixtyFour() {
    StrongBus bus = new StrongBus(2);
    bus.pass(10);
    bus.request(0, 2047, 2, 65535);
    bus.pass(1);
    CHECK.due("the start", bus.level(0), 0);
    bus.pass(63);
    CHECK.due("the start, 63 later", bus.level(63), 0);
    CHECK.due("bit 1, 62 later", bus.level(62), 1);
    CHECK.due("level(64)", bus.level(64), -1);
    CHECK.due("level(MAX)", bus.level(Integer.MAX_VALUE), -1);
    CHECK.due("level(MIN)", bus.level(Integer.MIN_VALUE), -1);
    bus.pass(1);
    CHECK.due("bit 1, 63 later", bus.level(63), 1);
  }

  private static void isTheWiresNotTheNodes() {
    StrongBus bus = new StrongBus(2);
    bus.disturb(0, 1);
    bus.disturb(1, 1);
    bus.pass(1);
    CHECK.due("both see 0, none drives it", bus.level(0), 1);
  }
}
