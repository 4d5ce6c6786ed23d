@Section("Promise 10: total")
public final class TotalTest {
  private static final Check CHECK = new Check(TotalTest.class);

  public static void main(String[] args) {
    CHECK.run();
  }

  @Says("How many: 0 bit times,")
  static void bitTimes() {
    StrongBus bus = new StrongBus(2);
    CHECK.due("total(0) of a new one", bus.total(0), 0);
    bus.pass(1);
    CHECK.due("total(0)", bus.total(0), 1);
    bus.pass(200);
    CHECK.due("total(0)", bus.total(0), 201);
  }

  @Says("1 frames sent,")
  static void framesSent() {
    StrongBus bus = new StrongBus(2);
    bus.request(0, 0, 0, 0);
    bus.request(1, 1, 0, 0);
    bus.pass(Line.TAIL_LAST - 1);
    CHECK.due("before the last bit of the tail: total(1)", bus.total(1), 0);
    bus.pass(1);
    CHECK.due("behind it: total(1)", bus.total(1), 1);
    bus.pass(200);
    CHECK.due("total(1)", bus.total(1), 2);
    totals(bus, "no error", 0, 0, 0, 0, 0, 0);
  }

  @Says("1 frames sent,")
  static void equalFramesAreSentByEach() {
    StrongBus bus = new StrongBus(4);
    for (int node = 0; node < 3; node++) {
      bus.request(node, 0, 0, 0);
    }
    bus.pass(Line.TAIL_LAST);
    CHECK.due("total(1)", bus.total(1), 3);
  }

  @Says("errors 2 BIT,")
  static void bitErrors() {
    StrongBus bus = new StrongBus(4);
    bus.request(0, 0, 0, 0);
    bus.disturb(0, 1);
    bus.pass(1);
    totals(bus, "BIT", 1, 0, 0, 0, 0, 0);
    bus.pass(5);
    totals(bus, "three hearing ones err by its flag", 1, 3, 0, 0, 0, 0);
    bus.pass(17);
    totals(bus, "no more", 1, 3, 0, 0, 0, 0);
  }

  @Says("3 PAD,")
  static void padErrors() {
    StrongBus bus = new StrongBus(2);
    bus.request(0, 0, 0, 0);
    bus.disturb(1, 6);
    bus.pass(6);
    totals(bus, "PAD", 0, 1, 0, 0, 0, 0);
    bus.pass(1);
    // The flag's first 0 is in bit 5 of the sender's frame, where that is 0 as well.
    totals(bus, "the sender drives 0, too", 0, 1, 0, 0, 0, 0);
    bus.pass(5);
    totals(bus, "its next pad is one of the flag's", 1, 1, 0, 0, 0, 0);
  }

  @Says("4 SHAPE,")
  static void shapeErrors() {
    StrongBus bus = new StrongBus(2);
    bus.request(0, Line.LONG_ID, 0, 0);
    bus.disturb(1, 13);
    bus.pass(13);
    totals(bus, "SHAPE", 0, 0, 1, 0, 0, 0);
    StrongBus three = new StrongBus(3);
    three.request(0, 0, 0, 0);
    three.disturb(1, Line.TAIL);
    three.pass(Line.TAIL);
    totals(three, "SHAPE in the tail", 0, 0, 1, 0, 0, 0);
    three.pass(1);
    totals(three, "its flag", 1, 0, 2, 0, 0, 0);
  }

  @Says("5 CHECK,")
  static void checkErrors() {
    StrongBus bus = new StrongBus(4);
    bus.request(0, Line.LONG_ID, 2, Line.LONG_DATA);
    bus.disturb(1, 26);
    bus.disturb(2, 27);
    bus.pass(Line.LONG_END + 1);
    totals(bus, "the answer", 0, 0, 0, 0, 0, 0);
    bus.pass(1);
    totals(bus, "the gap", 0, 0, 0, 2, 0, 0);
  }

  @Says("6 ANSWER")
  static void answerErrors() {
    StrongBus bus = new StrongBus(2);
    bus.request(0, Line.LONG_ID, 2, Line.LONG_DATA);
    bus.disturb(1, 26);
    bus.pass(Line.LONG_END);
    totals(bus, "the end", 0, 0, 0, 0, 0, 0);
    bus.pass(1);
    totals(bus, "the answer", 0, 0, 0, 0, 1, 0);
    bus.pass(1);
    totals(bus, "the gap", 0, 0, 0, 1, 1, 0);
  }

  @Says("(as far as they are counted)")
  static void anAnswerThatIsNotCounted() {
    StrongBus at120 = Line.withErrors(15);
    at120.disturb(0, Line.ANSWER);
    at120.pass(Line.ANSWER);
    CHECK.due("120 is counted: T", at120.count(0, 0), 128);
    CHECK.due("total(6)", at120.total(6), 1);

    StrongBus at128 = Line.withErrors(16);
    at128.disturb(0, Line.ANSWER);
    at128.pass(Line.ANSWER);
    CHECK.due("128 is not counted: T", at128.count(0, 0), 128);
    CHECK.due("total(6)", at128.total(6), 0);

    StrongBus byR = Line.withHighR();
    byR.request(1, 0, 0, 0);
    byR.disturb(1, Line.ANSWER);
    byR.pass(Line.ANSWER);
    CHECK.due("nor with a high R: total(6)", byR.total(6), 0);
  }

  @Says("7 overloads.")
  static void overloads() {
    StrongBus bus = new StrongBus(4);
    bus.request(0, 0, 0, 0);
    bus.disturb(2, Line.TAIL_LAST + 1);
    bus.pass(Line.TAIL_LAST + 1);
    totals(bus, "one", 0, 0, 0, 0, 0, 1);
    bus.pass(1);
    totals(bus, "all", 0, 0, 0, 0, 0, 4);
    bus.pass(100);
    totals(bus, "no more", 0, 0, 0, 0, 0, 4);
  }

  @Says("IllegalArgumentException: any other number.")
  static void anyOtherNumber() {
    StrongBus bus = new StrongBus(2);
    String before = Line.picture(bus, 2);
    for (int which : new int[] {-1, 8, 9, Integer.MAX_VALUE, Integer.MIN_VALUE}) {
      CHECK.badArgument("total(" + which + ")", () -> bus.total(which));
    }
    CHECK.due("total(0)", bus.total(0), 0);
    CHECK.due("total(7)", bus.total(7), 0);
    CHECK.due("a refused call changes nothing: the bus", Line.picture(bus, 2), before);
  }

  private static void totals(StrongBus bus, String when, int... fromBit) {
    for (int i = 0; i < fromBit.length; i++) {
      CHECK.due(when + ": total(" + (2 + i) + ")", bus.total(2 + i), fromBit[i]);
    }
  }
}
