@Section("Promise 6: level")
public final class LevelTest {
  private static final Check CHECK = new Check(LevelTest.class);

  public static void main(String[] args) {
    CHECK.run();
  }

  @Says("The level of the wire i bit times before the latest one")
  static void goesBackOverAFrame() {
    StrongBus bus = new StrongBus(2);
    String frame = Line.frame(345, 0, 0);
    bus.request(1, 345, 0, 0);
    bus.pass(frame.length());
    for (int i = 0; i < frame.length(); i++) {
      CHECK.due("level(" + i + ")", bus.level(i), frame.charAt(frame.length() - 1 - i) - '0');
    }
  }

  @Says("The level of the wire i bit times before the latest one")
  static void goesBackOverOldLevelsAgainAndAgain() {
    String frame = Line.frame(345, 0, 0);
    StrongBus bus = new StrongBus(2);
    for (int round = 0; round < 6; round++) {
      // At 64 bit times a round the same places would come back, so that an odd number goes between.
      bus.pass(37);
      bus.request(1, 345, 0, 0);
      CHECK.due("in round " + round, Line.passing(bus, frame.length()), frame);
    }
  }

  @Says("The level of the wire i bit times before the latest one")
  static void isTheWiresNotTheNodes() {
    StrongBus bus = new StrongBus(2);
    bus.disturb(0, 1);
    bus.disturb(1, 1);
    bus.pass(1);
    CHECK.due("both see 0, none drives it", bus.level(0), 1);
    StrongBus other = new StrongBus(2);
    other.request(0, 0, 0, 0);
    other.disturb(0, 1);
    other.disturb(1, 1);
    other.pass(1);
    CHECK.due("both see 1, one drives 0", other.level(0), 0);
  }

  @Says("(0: the latest);")
  static void zeroIsTheLatest() {
    StrongBus bus = new StrongBus(2);
    bus.request(0, 1024, 0, 0);
    bus.pass(1);
    CHECK.due("level(0)", bus.level(0), 0);
    bus.pass(1);
    CHECK.due("level(0)", bus.level(0), 1);
    CHECK.due("level(1)", bus.level(1), 0);
  }

  @Says("-1 when it is not 0 .. 63,")
  static void keepsSixtyFour() {
    StrongBus bus = new StrongBus(2);
    bus.pass(10);
    bus.request(0, 2047, 2, 65535);
    bus.pass(1);
    bus.pass(63);
    CHECK.due("the start, 63 later", bus.level(63), 0);
    CHECK.due("bit 1, 62 later", bus.level(62), 1);
    bus.pass(1);
    CHECK.due("bit 1, 63 later", bus.level(63), 1);
    for (int i : new int[] {64, 65, 74, 128, Integer.MAX_VALUE, -1, -64, Integer.MIN_VALUE}) {
      CHECK.due("level(" + i + ")", bus.level(i), -1);
    }
  }

  @Says("or there was none.")
  static void thereWasNone() {
    StrongBus bus = new StrongBus(2);
    for (int i : new int[] {0, 1, 63}) {
      CHECK.due("level(" + i + ") of a new one", bus.level(i), -1);
    }
    for (int passed = 1; passed <= 63; passed++) {
      bus.pass(1);
      CHECK.due("the first of " + passed, bus.level(passed - 1), 1);
      CHECK.due("the one before the first of " + passed, bus.level(passed), -1);
    }
    bus.pass(1);
    CHECK.due("the first of 64", bus.level(63), 1);
  }
}
