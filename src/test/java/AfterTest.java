/**
 * The sentences of the terms on what is behind a flag. Three ways lead there: (HEARING) on a bus of two node 1 sees a
 * false start in 1, flags in 8 .. 13, and node 0 flags in 14 .. 19. (SENDING) node 0 errs in its start, flags in
 * 2 .. 7, and node 1 in 7 .. 12. (OVERLOAD) behind a plain frame node 1 flags in 52 .. 57, and node 0 in 53 .. 58.
 */
@Section("Terms")
public final class AfterTest {
  private static final Check CHECK = new Check(AfterTest.class);

  public static void main(String[] args) {
    CHECK.run();
  }

  @Says("Then AFTER: as long as it has seen no 1: if it sees 0 in the first bit time and was hearing, R is 8 more;")
  static void a0InTheFirstBitTime() {
    StrongBus bus = hearing();
    bus.pass(13);
    CHECK.due("state(1)", bus.state(1), Line.AFTER);
    counts(bus, 1, "its flag", 0, 1);
    bus.pass(1);
    counts(bus, 1, "a 0 in the first bit time", 0, 9);
    bus.pass(5);
    counts(bus, 1, "five more 0", 0, 9);
    bus.pass(1);
    counts(bus, 0, "the other one saw a 1 there", 0, 1);
  }

  @Says("Then AFTER: as long as it has seen no 1: if it sees 0 in the first bit time and was hearing, R is 8 more;")
  static void a1InTheFirstBitTime() {
    StrongBus bus = hearing();
    bus.disturb(1, 14);
    bus.pass(14);
    counts(bus, 1, "a 1 in the first bit time", 0, 1);
    bus.pass(1);
    counts(bus, 1, "a 0 in the second one is SHAPE", 0, 2);
    CHECK.due("total(4)", bus.total(4), 1);
  }

  @Says("Then AFTER: as long as it has seen no 1: if it sees 0 in the first bit time and was hearing, R is 8 more;")
  static void itIsNothingForTheOthers() {
    StrongBus sending = sending();
    sending.pass(8);
    CHECK.due("it saw a 0", sending.level(0), 0);
    counts(sending, 0, "it was sending", 8, 0);
    StrongBus overload = overload();
    overload.pass(58);
    CHECK.due("it saw a 0", overload.level(0), 0);
    counts(overload, 1, "it flagged an overload", 0, 0);
  }

  @Says("Then AFTER: as long as it has seen no 1: if it sees 0 in the first bit time and was hearing, R is 8 more;")
  static void aPassiveOneIsNoExemption() {
    StrongBus bus = Line.withR128();
    bus.disturb(1, 1);
    bus.disturb(1, 14);
    bus.pass(13);
    counts(bus, 1, "its flag", 0, 129);
    bus.pass(1);
    counts(bus, 1, "a 0 in the first bit time", 0, 137);
  }

  @Says("at each eighth 0 in a row, T or R as in a flag.")
  static void rAtEachEighth() {
    StrongBus bus = hearing();
    Line.disturb(bus, 1, 20, 37);
    bus.pass(20);
    counts(bus, 1, "seven 0", 0, 9);
    bus.pass(1);
    counts(bus, 1, "eight 0", 0, 17);
    bus.pass(7);
    counts(bus, 1, "fifteen 0", 0, 17);
    bus.pass(1);
    counts(bus, 1, "sixteen 0", 0, 25);
    bus.pass(8);
    counts(bus, 1, "twenty-four 0", 0, 33);
    bus.pass(8);
    counts(bus, 1, "and eight 1", 0, 33);
    CHECK.due("state(1)", bus.state(1), Line.PAUSE);
  }

  @Says("at each eighth 0 in a row, T or R as in a flag.")
  static void tAtEachEighth() {
    StrongBus bus = sending();
    Line.disturb(bus, 0, 13, 23);
    bus.pass(14);
    counts(bus, 0, "seven 0", 8, 0);
    bus.pass(1);
    counts(bus, 0, "eight 0", 16, 0);
    bus.pass(7);
    counts(bus, 0, "fifteen 0", 16, 0);
    bus.pass(1);
    counts(bus, 0, "sixteen 0", 24, 0);
  }

  @Says("at each eighth 0 in a row, T or R as in a flag.")
  static void neitherForAnOverload() {
    StrongBus bus = overload();
    Line.disturb(bus, 0, 59, 75);
    Line.disturb(bus, 1, 59, 75);
    bus.pass(75);
    CHECK.due("state(0)", bus.state(0), Line.AFTER);
    CHECK.due("state(1)", bus.state(1), Line.AFTER);
    counts(bus, 0, "seventeen 0", 0, 0);
    counts(bus, 1, "eighteen 0", 0, 0);
  }

  @Says("with T above 255 it is off, also below.")
  static void offByZeros() {
    StrongBus bus = Line.withErrors(15);
    // BIT makes it 128, and its flag passive; the other one's flag is 8 .. 13, its own ends with 7.
    bus.disturb(0, 1);
    Line.disturb(bus, 0, 14, 150);
    bus.pass(7 + 8 * 15);
    counts(bus, 0, "fifteen times eight 0", 248, 0);
    bus.pass(7);
    CHECK.due("state(0)", bus.state(0), Line.AFTER);
    bus.pass(1);
    counts(bus, 0, "sixteen times", 256, 0);
    CHECK.due("state(0)", bus.state(0), Line.OFF);
    CHECK.due("count(0, 2)", bus.count(0, 2), 0);
  }

  @Says("with T above 255 it is off, also below.")
  static void notOffWith255() {
    StrongBus bus = Line.withErrorsAndAFrame(30);
    bus.request(0, 0, 0, 0);
    bus.disturb(0, 1);
    bus.pass(1);
    counts(bus, 0, "239 and 8", 247, 0);
    // Its passive flag ends with 7; the other one's flag gives it six 0, and two more follow.
    bus.disturb(0, 13);
    bus.disturb(0, 14);
    bus.pass(14);
    counts(bus, 0, "eight 0", 255, 0);
    CHECK.due("it is not off: state(0)", bus.state(0), Line.AFTER);
  }

  @Says("with T above 255 it is off, also below.")
  static void offByShape() {
    StrongBus bus = Line.withErrors(31);
    bus.disturb(0, Line.ANSWER);
    bus.disturb(0, Line.ANSWER + 6 + 2);
    bus.pass(Line.ANSWER + 6 + 1);
    counts(bus, 0, "ANSWER of a passive one", 248, 0);
    CHECK.due("state(0)", bus.state(0), Line.AFTER);
    bus.pass(1);
    counts(bus, 0, "SHAPE", 256, 0);
    CHECK.due("state(0)", bus.state(0), Line.OFF);
  }

  @Says({"From the first 1 on it has to see seven more;", "Then pause."})
  static void eight1() {
    StrongBus bus = hearing();
    bus.pass(20 + 6);
    CHECK.due("seven 1: state(0)", bus.state(0), Line.AFTER);
    CHECK.due("seven 1: state(1)", bus.state(1), Line.AFTER);
    bus.pass(1);
    CHECK.due("eight 1: state(0)", bus.state(0), Line.PAUSE);
    CHECK.due("eight 1: state(1)", bus.state(1), Line.PAUSE);
  }

  @Says("From the first 1 on it has to see seven more;")
  static void fromTheFirst1ThatItSees() {
    StrongBus bus = hearing();
    Line.disturb(bus, 1, 20, 22);
    bus.pass(27);
    CHECK.due("no SHAPE: total(4)", bus.total(4), 0);
    CHECK.due("state(0)", bus.state(0), Line.PAUSE);
    CHECK.due("it saw three 1 less: state(1)", bus.state(1), Line.AFTER);
    bus.pass(2);
    CHECK.due("seven 1: state(1)", bus.state(1), Line.AFTER);
    bus.pass(1);
    CHECK.due("eight 1: state(1)", bus.state(1), Line.PAUSE);
  }

  @Says("From the first 1 on it has to see seven more;")
  static void theFirst1InTheFirstBitTime() {
    StrongBus bus = Line.withErrors(16);
    bus.disturb(0, Line.ANSWER);
    bus.pass(Line.ANSWER + 6 + 7);
    CHECK.due("seven 1: state(0)", bus.state(0), Line.AFTER);
    bus.pass(1);
    CHECK.due("eight 1: state(0)", bus.state(0), Line.PAUSE);
  }

  @Says({"a 0 among these is an error SHAPE", "(as of what it was;"})
  static void shapeOfOneThatWasHearing() {
    for (int k = 1; k <= 7; k++) {
      StrongBus bus = hearing();
      bus.disturb(1, 20 + k);
      bus.pass(20 + k - 1);
      CHECK.due("before: state(1)", bus.state(1), Line.AFTER);
      counts(bus, 1, "before", 0, 9);
      bus.pass(1);
      CHECK.due("a 0 as number " + k + " behind the first 1: state(1)", bus.state(1), Line.FLAG);
      CHECK.due("total(4)", bus.total(4), 1);
      counts(bus, 1, "SHAPE", 0, 10);
      bus.pass(1);
      CHECK.due("it flags", bus.level(0), 0);
    }
  }

  @Says({"a 0 among these is an error SHAPE", "(as of what it was;"})
  static void shapeOfOneThatWasSending() {
    for (int k = 1; k <= 7; k++) {
      StrongBus bus = sending();
      bus.disturb(0, 13 + k);
      bus.pass(13 + k);
      CHECK.due("a 0 as number " + k + " behind the first 1: state(0)", bus.state(0), Line.FLAG);
      CHECK.due("total(4)", bus.total(4), 1);
      counts(bus, 0, "SHAPE", 16, 0);
    }
  }

  @Says("a 0 among these is an error SHAPE")
  static void noShapeBehindThese() {
    StrongBus bus = sending();
    bus.disturb(0, 13 + 8);
    bus.pass(13 + 8);
    CHECK.due("a 0 as number 8 behind the first 1: total(4)", bus.total(4), 0);
    CHECK.due("total(7)", bus.total(7), 1);
    counts(bus, 0, "an overload in the pause", 8, 0);
  }

  @Says("(as of what it was;")
  static void shapeOfAPassiveOne() {
    StrongBus bus = Line.withErrors(16);
    bus.disturb(0, Line.ANSWER);
    bus.disturb(0, Line.ANSWER + 6 + 2);
    bus.pass(Line.ANSWER + 6 + 2);
    counts(bus, 0, "SHAPE", 136, 0);
    CHECK.due("total(4)", bus.total(4), 1);
    bus.pass(1);
    CHECK.due("its flag is a passive one", bus.level(0), 1);
  }

  @Says("(as of what it was;")
  static void theNextFlagIsCountedAnew() {
    StrongBus bus = hearing();
    // SHAPE in 21, a flag in 22 .. 27; the other one errs in 22 and flags in 23 .. 28.
    bus.disturb(1, 21);
    bus.pass(27);
    counts(bus, 1, "its second flag", 0, 10);
    CHECK.due("state(1)", bus.state(1), Line.AFTER);
    bus.pass(1);
    counts(bus, 1, "a 0 in the first bit time behind it", 0, 18);
    counts(bus, 0, "the other one", 0, 2);
    bus.pass(8);
    CHECK.due("eight 1: state(1)", bus.state(1), Line.PAUSE);
  }

  @Says("one that flagged an overload flags another one).")
  static void anotherOverload() {
    for (int k = 1; k <= 7; k++) {
      for (int node = 0; node < 2; node++) {
        StrongBus bus = overload();
        bus.disturb(node, 59 + k);
        bus.pass(59 + k);
        CHECK.due("a 0 as number " + k + " behind the first 1: state", bus.state(node), Line.FLAG);
        CHECK.due("total(7)", bus.total(7), 3);
        CHECK.due("no SHAPE: total(4)", bus.total(4), 0);
        counts(bus, node, "no error", 0, 0);
        bus.pass(1);
        CHECK.due("it flags", bus.level(0), 0);
      }
    }
  }

  @Says("one that flagged an overload flags another one).")
  static void anotherOverloadOfAPassiveOne() {
    StrongBus bus = Line.withErrors(18);
    bus.disturb(0, 51);
    // Its flag is 52 .. 57, the other one's 53 .. 58, the first 1 comes in 59.
    bus.disturb(0, 62);
    bus.pass(62);
    CHECK.due("total(7)", bus.total(7), 3);
    counts(bus, 0, "no error", 143, 0);
    bus.pass(1);
    CHECK.due("its flag is not a passive one", bus.level(0), 0);
  }

  private static StrongBus hearing() {
    StrongBus bus = new StrongBus(2);
    bus.disturb(1, 1);
    return bus;
  }

  private static StrongBus sending() {
    StrongBus bus = new StrongBus(2);
    bus.request(0, 0, 0, 0);
    bus.disturb(0, 1);
    return bus;
  }

  private static StrongBus overload() {
    StrongBus bus = new StrongBus(2);
    bus.request(0, 0, 0, 0);
    bus.disturb(1, 51);
    return bus;
  }

  private static void counts(StrongBus bus, int node, String when, int t, int r) {
    CHECK.due(when + ": T", bus.count(node, 0), t);
    CHECK.due(when + ": R", bus.count(node, 1), r);
  }
}
