/** The paragraph of the terms on a node that is off. With 32 errors in its start it has seen that start alone. */
@Section("Terms")
public final class OffTest {
  private static final Check CHECK = new Check(OffTest.class);
  // The other one sees the start and six 1, and flags.
  private static final int OTHERS_FLAG = 6 + 6;

  public static void main(String[] args) {
    CHECK.run();
  }

  @Says("OFF: nothing waits any more;")
  static void nothingWaits() {
    StrongBus bus = Line.withErrors(31);
    for (int id = 1; id <= 3; id++) {
      bus.request(0, id, 0, 0);
    }
    bus.request(1, 2047, 0, 0);
    bus.disturb(0, 1);
    bus.pass(1);
    CHECK.due("state(0)", bus.state(0), Line.OFF);
    CHECK.due("count(0, 2)", bus.count(0, 2), 0);
    CHECK.due("the other one's: count(1, 2)", bus.count(1, 2), 1);
  }

  @Says("OFF: nothing waits any more;")
  static void nothingIsSentWhenItIsOnAgain() {
    StrongBus bus = Line.withErrors(32);
    bus.pass(OTHERS_FLAG + 88);
    CHECK.due("state(0)", bus.state(0), Line.IDLE);
    CHECK.due("pass(100)", bus.pass(100), 0);
    CHECK.due("state(0)", bus.state(0), Line.IDLE);
    CHECK.due("a new one", bus.request(0, 7, 0, 0), 1);
    CHECK.due("is sent", bus.pass(60), 1);
    CHECK.due("and heard", bus.take(1), 7);
  }

  @Says("when it has seen 8 times eleven 1")
  static void eightTimesEleven() {
    StrongBus bus = Line.withErrors(32);
    CHECK.due("the other one's flag", Line.passing(bus, OTHERS_FLAG), "111111000000");
    bus.pass(87);
    CHECK.due("87 of 88: state(0)", bus.state(0), Line.OFF);
    CHECK.due("T", bus.count(0, 0), 256);
    bus.pass(1);
    CHECK.due("88 of 88: state(0)", bus.state(0), Line.IDLE);
  }

  @Says("when it has seen 8 times eleven 1")
  static void countedFromTheNextBitTimeOn() {
    StrongBus bus = Line.withErrors(31);
    // In the tail none but the sender sees a 0, and all that follows is 1.
    bus.disturb(0, Line.TAIL);
    bus.pass(Line.TAIL);
    CHECK.due("state(0)", bus.state(0), Line.OFF);
    bus.pass(87);
    CHECK.due("87 of 88: state(0)", bus.state(0), Line.OFF);
    bus.pass(1);
    CHECK.due("88 of 88: state(0)", bus.state(0), Line.IDLE);

    bus.request(0, 0, 0, 0);
    Line.errAtStart(bus, 0, 32);
    CHECK.due("off again: state(0)", bus.state(0), Line.OFF);
    bus.pass(OTHERS_FLAG + 87);
    CHECK.due("87 of 88: state(0)", bus.state(0), Line.OFF);
    bus.pass(1);
    CHECK.due("88 of 88: state(0)", bus.state(0), Line.IDLE);
  }

  @Says("(each time side by side,")
  static void tenAndA0AreNothing() {
    StrongBus bus = Line.withErrors(32);
    bus.pass(OTHERS_FLAG);
    bus.disturb(0, 11);
    bus.pass(11 + 87);
    CHECK.due("ten, a 0, and 87: state(0)", bus.state(0), Line.OFF);
    bus.pass(1);
    CHECK.due("and 88: state(0)", bus.state(0), Line.IDLE);
  }

  @Says("counted anew behind each eleven")
  static void fiveBehindElevenAreNothing() {
    StrongBus bus = Line.withErrors(32);
    bus.pass(OTHERS_FLAG);
    bus.disturb(0, 11 + 6);
    bus.pass(11 + 6 + 76);
    CHECK.due("eleven, five, a 0, and 76: state(0)", bus.state(0), Line.OFF);
    bus.pass(1);
    CHECK.due("and 77: state(0)", bus.state(0), Line.IDLE);
  }

  @Says("and each 0),")
  static void a0TakesNoElevenAway() {
    StrongBus bus = Line.withErrors(32);
    bus.pass(OTHERS_FLAG);
    bus.disturb(0, 77 + 1);
    bus.pass(77 + 1 + 10);
    CHECK.due("seven times eleven, a 0, and ten: state(0)", bus.state(0), Line.OFF);
    bus.pass(1);
    CHECK.due("and eleven: state(0)", bus.state(0), Line.IDLE);
  }

  @Says("and each 0),")
  static void a0BehindEachEleven() {
    StrongBus bus = Line.withErrors(32);
    bus.pass(OTHERS_FLAG);
    for (int k = 1; k <= 7; k++) {
      bus.disturb(0, 12 * k);
    }
    bus.pass(12 * 7 + 10);
    CHECK.due("seven times eleven and a 0, and ten: state(0)", bus.state(0), Line.OFF);
    bus.pass(1);
    CHECK.due("and eleven: state(0)", bus.state(0), Line.IDLE);
  }

  @Says("and each 0),")
  static void whatItSeesIsCounted() {
    StrongBus bus = Line.withErrors(32);
    // The other one's flag, seen as six 1.
    Line.disturb(bus, 0, 7, 12);
    bus.pass(87);
    CHECK.due("87 of 88: state(0)", bus.state(0), Line.OFF);
    bus.pass(1);
    CHECK.due("88 of 88: state(0)", bus.state(0), Line.IDLE);
  }

  @Says("T and R are 0, and it is idle.")
  static void bothCountersAre0() {
    StrongBus bus = new StrongBus(2);
    bus.disturb(0, 1);
    bus.pass(40);
    CHECK.due("R", bus.count(0, 1), 9);
    bus.request(0, 0, 0, 0);
    Line.errAtStart(bus, 0, 32);
    CHECK.due("state(0)", bus.state(0), Line.OFF);
    bus.pass(OTHERS_FLAG + 87);
    CHECK.due("not before: T", bus.count(0, 0), 256);
    CHECK.due("not before: R", bus.count(0, 1), 9);
    bus.pass(1);
    CHECK.due("state(0)", bus.state(0), Line.IDLE);
    CHECK.due("T", bus.count(0, 0), 0);
    CHECK.due("R", bus.count(0, 1), 0);
  }

  @Says("T and R are 0, and it is idle.")
  static void itSendsAndHearsAtOnce() {
    StrongBus sending = Line.withErrors(32);
    sending.pass(OTHERS_FLAG + 88);
    sending.request(0, 0, 0, 0);
    sending.pass(1);
    CHECK.due("state(0)", sending.state(0), Line.SENDING);
    StrongBus hearing = Line.withErrors(32);
    hearing.pass(OTHERS_FLAG + 88);
    hearing.request(1, 0, 0, 0);
    hearing.pass(1);
    CHECK.due("state(0)", hearing.state(0), Line.HEARING);
    CHECK.due("it answers", hearing.pass(49), 1);
    CHECK.due("it hears", hearing.take(0), 0);
  }

  @Says("T and R are 0, and it is idle.")
  static void untilThenItHearsNothing() {
    StrongBus bus = new StrongBus(3);
    bus.request(1, 5, 0, 0);
    bus.pass(60);
    bus.request(0, 0, 0, 0);
    Line.errAtStart(bus, 0, 32);
    CHECK.due("state(0)", bus.state(0), Line.OFF);
    bus.pass(OTHERS_FLAG + 8 + 3);
    bus.request(1, 0, 0, 0);
    CHECK.due("the others go on", bus.pass(Line.WITH_PAUSE), 1);
    CHECK.due("state(0)", bus.state(0), Line.OFF);
    CHECK.due("its inbox stays: count(0, 3)", bus.count(0, 3), 1);
    CHECK.due("T", bus.count(0, 0), 256);
    CHECK.due("R", bus.count(0, 1), 0);
    CHECK.due("what came before can be taken", bus.take(0), 5);
    CHECK.due("node 2 heard both: count(2, 3)", bus.count(2, 3), 2);
  }
}
