/** The paragraph of the terms on the last bit of the tail. */
@Section("Terms")
public final class TailTest {
  private static final Check CHECK = new Check(TailTest.class);

  public static void main(String[] args) {
    CHECK.run();
  }

  @Says({"When the last bit of the tail was seen,", "a sending one has sent its frame, which waits no more,"})
  static void sentWithTheLastBit() {
    StrongBus bus = new StrongBus(2);
    bus.request(0, 0, 0, 0);
    bus.pass(Line.TAIL_LAST - 1);
    CHECK.due("before: total(1)", bus.total(1), 0);
    CHECK.due("before: count(0, 2)", bus.count(0, 2), 1);
    CHECK.due("before: count(1, 3)", bus.count(1, 3), 0);
    bus.pass(1);
    CHECK.due("then: total(1)", bus.total(1), 1);
    CHECK.due("then: count(0, 2)", bus.count(0, 2), 0);
    CHECK.due("then: count(1, 3)", bus.count(1, 3), 1);
  }

  @Says("a sending one has sent its frame, which waits no more,")
  static void theOthersWaitOn() {
    StrongBus bus = new StrongBus(2);
    bus.request(0, 9, 0, 0);
    bus.pass(1);
    bus.request(0, 3, 0, 0);
    bus.request(0, 4, 0, 0);
    bus.pass(60);
    CHECK.due("the one that was sent", bus.take(1), 9);
    CHECK.due("two wait: count(0, 2)", bus.count(0, 2), 2);
    bus.pass(120);
    CHECK.due("then", bus.take(1), 3);
    CHECK.due("then", bus.take(1), 4);
  }

  @Says("and there was no error:")
  static void withAnErrorNothingIsSent() {
    StrongBus bus = new StrongBus(2);
    bus.request(0, 0, 0, 0);
    bus.disturb(0, Line.TAIL_LAST);
    bus.pass(Line.TAIL_LAST);
    CHECK.due("BIT in the last bit of the tail: total(1)", bus.total(1), 0);
    CHECK.due("count(0, 2)", bus.count(0, 2), 1);
    CHECK.due("T", bus.count(0, 0), 8);
    CHECK.due("state(0)", bus.state(0), Line.FLAG);
    CHECK.due("the hearing one had none: count(1, 3)", bus.count(1, 3), 1);

    StrongBus hearing = new StrongBus(2);
    hearing.request(0, 0, 0, 0);
    hearing.disturb(1, Line.TAIL_LAST - 1);
    hearing.pass(Line.TAIL_LAST);
    CHECK.due("SHAPE in the sixth of the tail: count(1, 3)", hearing.count(1, 3), 0);
    CHECK.due("R", hearing.count(1, 1), 1);
  }

  @Says("and T is 1 less, if it is above 0.")
  static void tGoesDownTo0() {
    StrongBus bus = Line.withErrors(1);
    for (int t = 7; t >= -2; t--) {
      bus.pass(Line.TAIL_LAST - 1);
      CHECK.due("before the last bit: T", bus.count(0, 0), Math.max(t + 1, 0));
      bus.pass(1);
      CHECK.due("behind it: T", bus.count(0, 0), Math.max(t, 0));
      bus.pass(3);
      bus.request(0, 0, 0, 0);
    }
  }

  @Says("and T is 1 less, if it is above 0.")
  static void tOfAHearingOneStays() {
    StrongBus bus = Line.withErrorsAndAFrame(2);
    bus.request(1, 0, 0, 0);
    CHECK.due("the other one sends", bus.pass(Line.WITH_PAUSE), 1);
    CHECK.due("T", bus.count(0, 0), 15);
    CHECK.due("R of the one that sent stays, too", bus.count(1, 1), 1);
  }

  @Says("For a hearing one R is 1 less, if it is 1 .. 127,")
  static void rIsOneLess() {
    CHECK.due("of 0 there is no less", rBehindAFrame(new StrongBus(2), 0), 0);
    StrongBus one = Line.withErrors(1);
    one.pass(Line.TAIL_LAST - 1);
    CHECK.due("1, before the last bit", one.count(1, 1), 1);
    one.pass(1);
    CHECK.due("1", one.count(1, 1), 0);
    StrongBus two = Line.withErrors(2);
    two.pass(Line.TAIL_LAST);
    CHECK.due("2", two.count(1, 1), 1);
    CHECK.due("127", rBehindAFrame(Line.withR127(), 127), 126);
  }

  @Says("For a hearing one R is 1 less, if it is 1 .. 127,")
  static void rIsOneLessForAFrameThatIsNotTaken() {
    StrongBus bus = Line.withErrors(2);
    bus.filter(1, 1, 1);
    bus.pass(Line.TAIL_LAST);
    CHECK.due("count(1, 3)", bus.count(1, 3), 0);
    CHECK.due("R", bus.count(1, 1), 1);
  }

  @Says("or 127, if it is more;")
  static void rIs127() {
    CHECK.due("128", rBehindAFrame(Line.withR128(), 128), 127);
    CHECK.due("169", rBehindAFrame(Line.withHighR(), 169), 127);
  }

  @Says("if it takes the frame, that comes into its inbox,")
  static void comesIntoTheInbox() {
    StrongBus bus = new StrongBus(3);
    bus.filter(1, 2047, 5);
    for (int id : new int[] {4, 5, 6, 5}) {
      bus.request(0, id, 0, 0);
      bus.pass(60);
    }
    CHECK.due("those that it takes: count(1, 3)", bus.count(1, 3), 2);
    CHECK.due("count(2, 3)", bus.count(2, 3), 4);
    CHECK.due("the first", bus.take(1), 5);
    CHECK.due("the others are not lost: count(1, 4)", bus.count(1, 4), 0);
  }

  @Says("or is LOST if there are 4.")
  static void isLostWithFour() {
    StrongBus bus = withFullInbox();
    CHECK.due("four: count(1, 4)", bus.count(1, 4), 0);
    bus.request(0, 9, 0, 0);
    bus.pass(60);
    CHECK.due("a fifth: count(1, 3)", bus.count(1, 3), 4);
    CHECK.due("count(1, 4)", bus.count(1, 4), 1);
    CHECK.due("it is sent all the same: total(1)", bus.total(1), 5);
    bus.filter(1, 2047, 8);
    bus.request(0, 9, 0, 0);
    bus.pass(60);
    CHECK.due("what it does not take is not lost: count(1, 4)", bus.count(1, 4), 1);
    for (int id = 1; id <= 4; id++) {
      CHECK.due("the four", bus.take(1), id);
    }
  }

  @Says("Both are in pause then")
  static void bothAreInPause() {
    StrongBus bus = new StrongBus(3);
    bus.request(0, 0, 0, 0);
    bus.pass(Line.TAIL_LAST - 1);
    CHECK.due("state(0)", bus.state(0), Line.SENDING);
    CHECK.due("state(1)", bus.state(1), Line.HEARING);
    bus.pass(1);
    for (int node = 0; node < 3; node++) {
      CHECK.due("state(" + node + ")", bus.state(node), Line.PAUSE);
    }
  }

  @Says("(if a hearing one saw 0 there, it flags an OVERLOAD instead).")
  static void overloadInTheLastBit() {
    StrongBus bus = Line.withErrors(3);
    bus.disturb(1, Line.TAIL_LAST);
    bus.pass(Line.TAIL_LAST);
    CHECK.due("state(0)", bus.state(0), Line.PAUSE);
    CHECK.due("state(1)", bus.state(1), Line.FLAG);
    CHECK.due("total(7)", bus.total(7), 1);
    CHECK.due("no SHAPE: total(4)", bus.total(4), 0);
    CHECK.due("the frame came: count(1, 3)", bus.count(1, 3), 1);
    CHECK.due("R is 1 less", bus.count(1, 1), 2);
    CHECK.due("it was sent: total(1)", bus.total(1), 1);
    bus.pass(1);
    CHECK.due("its flag", bus.level(0), 0);
    CHECK.due("the other one flags, too: state(0)", bus.state(0), Line.FLAG);
    CHECK.due("total(7)", bus.total(7), 2);
  }

  @Says("(if a hearing one saw 0 there, it flags an OVERLOAD instead).")
  static void overloadWithAFullInbox() {
    StrongBus bus = withFullInbox();
    bus.request(0, 0, 0, 0);
    bus.disturb(1, Line.TAIL_LAST);
    bus.pass(Line.TAIL_LAST);
    CHECK.due("total(7)", bus.total(7), 1);
    CHECK.due("the frame is lost: count(1, 4)", bus.count(1, 4), 1);
  }

  private static int rBehindAFrame(StrongBus bus, int before) {
    CHECK.due("R before", bus.count(1, 1), before);
    bus.request(0, 0, 0, 0);
    CHECK.due("a frame is sent", bus.pass(Line.TAIL_LAST), 1);
    return bus.count(1, 1);
  }

  private static StrongBus withFullInbox() {
    StrongBus bus = new StrongBus(2);
    for (int id = 1; id <= 4; id++) {
      bus.request(0, id, 0, 0);
      bus.pass(60);
    }
    return bus;
  }
}
