/** The paragraph of the terms on pause, suspension and rest; a plain frame's pause is 51 .. 53. */
@Section("Terms")
public final class PauseTest {
  private static final Check CHECK = new Check(PauseTest.class);

  public static void main(String[] args) {
    CHECK.run();
  }

  @Says({"PAUSE: three bit times.", "Else it is idle then,"})
  static void threeBitTimesBehindAFrame() {
    StrongBus bus = new StrongBus(2);
    bus.request(0, 0, 0, 0);
    bus.pass(Line.TAIL_LAST);
    states(bus, "none of three", Line.PAUSE, Line.PAUSE);
    bus.pass(1);
    states(bus, "one of three", Line.PAUSE, Line.PAUSE);
    bus.pass(1);
    states(bus, "two of three", Line.PAUSE, Line.PAUSE);
    bus.pass(1);
    states(bus, "three of three", Line.IDLE, Line.IDLE);
  }

  @Says({"PAUSE: three bit times.", "Else it is idle then,"})
  static void threeBitTimesBehindAFlag() {
    StrongBus bus = new StrongBus(2);
    bus.disturb(1, 1);
    // The flags end with 19.
    bus.pass(19 + 8 + 2);
    states(bus, "two of three", Line.PAUSE, Line.PAUSE);
    bus.pass(1);
    states(bus, "three of three", Line.IDLE, Line.IDLE);
  }

  @Says("A 0 in the first two: it flags an overload.")
  static void overloadInTheFirstTwo() {
    for (int node = 0; node < 2; node++) {
      for (int k = 1; k <= 2; k++) {
        StrongBus bus = new StrongBus(3);
        bus.request(0, 0, 0, 0);
        bus.disturb(node, Line.TAIL_LAST + k);
        bus.pass(Line.TAIL_LAST + k);
        CHECK.due("a 0 in bit time " + k + ": state", bus.state(node), Line.FLAG);
        CHECK.due("total(7)", bus.total(7), 1);
        CHECK.due("no error: total(4)", bus.total(4), 0);
        bus.pass(1);
        CHECK.due("it flags", bus.level(0), 0);
        CHECK.due("the others see it in bit time " + (k + 1) + ": state(2)", bus.state(2),
            k == 1 ? Line.FLAG : Line.HEARING);
        CHECK.due("total(7)", bus.total(7), k == 1 ? 3 : 1);
      }
    }
  }

  @Says("A 0 in the first two: it flags an overload.")
  static void aStartThatComesTooEarly() {
    StrongBus bus = withLateNode(2);
    bus.request(0, 0, 0, 0);
    bus.pass(1);
    states(bus, "a start in the second", Line.SENDING, Line.FLAG);
    CHECK.due("total(7)", bus.total(7), 1);
  }

  @Says("In the third a 0 is a start: it is hearing.")
  static void aStartInTheThird() {
    for (int node = 0; node < 2; node++) {
      StrongBus bus = new StrongBus(2);
      bus.request(0, 0, 0, 0);
      bus.disturb(node, Line.WITH_PAUSE);
      bus.pass(Line.WITH_PAUSE);
      CHECK.due("a 0 in the third: state", bus.state(node), Line.HEARING);
      CHECK.due("the other one: state", bus.state(1 - node), Line.IDLE);
      CHECK.due("total(7)", bus.total(7), 0);
    }
  }

  @Says("In the third a 0 is a start: it is hearing.")
  static void aStartInTheThirdIsHeardWhole() {
    StrongBus bus = withLateNode(1);
    bus.request(0, 0, 0, 0);
    bus.pass(1);
    states(bus, "a start in the third", Line.SENDING, Line.HEARING);
    CHECK.due("it is sent", bus.pass(49), 1);
    CHECK.due("it is heard", bus.take(1), 0);
  }

  @Says("In the third a 0 is a start: it is hearing.")
  static void aStartInTheThirdComesBeforeItsOwn() {
    StrongBus waiting = withLateNode(1);
    waiting.request(0, 9, 0, 0);
    waiting.request(1, 0, 0, 0);
    waiting.pass(1);
    states(waiting, "its own frame waits", Line.SENDING, Line.HEARING);
    waiting.pass(1);
    states(waiting, "and waits on", Line.SENDING, Line.HEARING);

    StrongBus passive = Line.withErrors(18);
    passive.disturb(0, Line.WITH_PAUSE);
    passive.pass(Line.WITH_PAUSE);
    states(passive, "nor is a passive one suspended", Line.HEARING, Line.IDLE);
  }

  @Says("or, if it is passive and what it was last")
  static void aPassiveOneThatSentIsSuspended() {
    StrongBus byT = Line.withErrors(17);
    byT.pass(Line.WITH_PAUSE);
    CHECK.due("T", byT.count(0, 0), 135);
    states(byT, "passive by T", Line.SUSPENDED, Line.IDLE);
    StrongBus byR = Line.withR128();
    byR.request(1, 0, 0, 0);
    byR.pass(Line.WITH_PAUSE);
    CHECK.due("R", byR.count(1, 1), 128);
    states(byR, "passive by R", Line.IDLE, Line.SUSPENDED);
  }

  @Says("or, if it is passive and what it was last")
  static void oneThatIsNotPassiveIsIdle() {
    StrongBus byT = Line.withErrors(16);
    byT.pass(Line.WITH_PAUSE);
    CHECK.due("T", byT.count(0, 0), 127);
    states(byT, "127 is not passive", Line.IDLE, Line.IDLE);
    StrongBus byR = Line.withR127();
    byR.request(1, 0, 0, 0);
    byR.pass(Line.WITH_PAUSE);
    CHECK.due("R", byR.count(1, 1), 127);
    states(byR, "nor with R", Line.IDLE, Line.IDLE);
  }

  @Says("(of sending and hearing,")
  static void oneThatHeardIsIdle() {
    StrongBus bus = Line.withErrorsAndAFrame(18);
    bus.request(1, 0, 0, 0);
    bus.pass(Line.WITH_PAUSE);
    CHECK.due("it is passive: T", bus.count(0, 0), 143);
    states(bus, "it was hearing last", Line.IDLE, Line.IDLE);
    bus.request(0, 9, 0, 0);
    bus.request(1, 0, 0, 0);
    bus.pass(Line.WITH_PAUSE);
    CHECK.due("its frame waits: count(0, 2)", bus.count(0, 2), 1);
    states(bus, "it was sending, and then hearing", Line.IDLE, Line.IDLE);
  }

  @Says("is sending, suspended.")
  static void oneThatErredSendingIsSuspended() {
    StrongBus bus = Line.withErrors(16);
    bus.disturb(0, Line.ANSWER);
    bus.pass(Line.ANSWER + 6 + 8 + 2);
    CHECK.due("two of the pause: state(0)", bus.state(0), Line.PAUSE);
    bus.pass(1);
    CHECK.due("behind its flag and the pause: state(0)", bus.state(0), Line.SUSPENDED);

    StrongBus hearing = Line.withR128();
    hearing.disturb(1, 1);
    hearing.pass(7 + 6 + 8 + 3);
    CHECK.due("one that erred hearing is not: state(1)", hearing.state(1), Line.IDLE);
  }

  @Says("but none from an overload on)")
  static void noneFromAnOverloadOn() {
    StrongBus bus = Line.withErrors(18);
    bus.disturb(0, Line.TAIL_LAST + 1);
    // Its flag is 52 .. 57, the other one's 53 .. 58, eight 1 follow, and a pause.
    bus.pass(58 + 8 + 3);
    CHECK.due("it is passive: T", bus.count(0, 0), 143);
    CHECK.due("total(7)", bus.total(7), 2);
    states(bus, "what it was last is none", Line.IDLE, Line.IDLE);
    bus.request(0, 0, 0, 0);
    bus.pass(Line.WITH_PAUSE);
    states(bus, "until it sends again", Line.SUSPENDED, Line.IDLE);
  }

  @Says("SUSPENDED: a 0 is a start;")
  static void aStartInEachBitTimeOfTheSuspension() {
    for (int k = 1; k <= 8; k++) {
      StrongBus bus = Line.withErrors(17);
      bus.request(0, 0, 0, 0);
      bus.pass(Line.WITH_PAUSE + k - 1);
      CHECK.due("state(0)", bus.state(0), Line.SUSPENDED);
      bus.request(1, 2047, 0, 0);
      bus.pass(1);
      states(bus, "bit time " + k, Line.HEARING, Line.SENDING);
      bus.pass(60);
      CHECK.due("it is heard", bus.take(0), 2047);
    }
  }

  @Says("after eight 1 it is idle.")
  static void eight1() {
    StrongBus bus = Line.withErrors(17);
    bus.request(0, 0, 0, 0);
    bus.pass(Line.WITH_PAUSE);
    for (int k = 1; k <= 7; k++) {
      bus.pass(1);
      CHECK.due(k + " of eight: state(0)", bus.state(0), Line.SUSPENDED);
      CHECK.due("the wire", bus.level(0), 1);
    }
    bus.pass(1);
    CHECK.due("eight: state(0)", bus.state(0), Line.IDLE);
    CHECK.due("the wire", bus.level(0), 1);
    bus.pass(1);
    CHECK.due("its next frame: state(0)", bus.state(0), Line.SENDING);
    CHECK.due("the wire", bus.level(0), 0);
  }

  @Says("after eight 1 it is idle.")
  static void eightEachTime() {
    StrongBus bus = Line.withErrors(18);
    bus.pass(Line.WITH_PAUSE + 3);
    // Three of eight, then it hears.
    bus.request(1, 0, 0, 0);
    bus.pass(Line.WITH_PAUSE);
    bus.request(0, 0, 0, 0);
    bus.pass(Line.WITH_PAUSE + 7);
    CHECK.due("seven of the next eight: state(0)", bus.state(0), Line.SUSPENDED);
    bus.pass(1);
    CHECK.due("eight of them: state(0)", bus.state(0), Line.IDLE);
  }

  @Says("IDLE, and nothing waits: a 0 is a start.")
  static void aStartAtRest() {
    StrongBus bus = new StrongBus(3);
    bus.pass(5);
    bus.request(0, 0, 0, 0);
    bus.pass(1);
    states(bus, "nothing waits", Line.SENDING, Line.HEARING);
    StrongBus two = new StrongBus(3);
    two.request(0, 0, 0, 0);
    two.request(1, 2047, 0, 0);
    two.pass(1);
    states(two, "a frame waits", Line.SENDING, Line.SENDING);
    StrongBus quiet = new StrongBus(3);
    quiet.pass(200);
    states(quiet, "no 0", Line.IDLE, Line.IDLE);
  }

  @Says("(A start is read as bit 0.)")
  static void aStartIsBit0() {
    // At rest, in a suspension, and in a pause: a pad is due behind the start and four 0.
    StrongBus rest = new StrongBus(2);
    padBehindTheStartAndFour0(rest);
    StrongBus suspended = Line.withErrors(17);
    suspended.pass(Line.WITH_PAUSE);
    CHECK.due("state(0)", suspended.state(0), Line.SUSPENDED);
    padBehindTheStartAndFour0(suspended);
    StrongBus pausing = new StrongBus(2);
    pausing.request(1, 0, 0, 0);
    pausing.pass(Line.WITH_PAUSE - 1);
    CHECK.due("state(0)", pausing.state(0), Line.PAUSE);
    padBehindTheStartAndFour0(pausing);
  }

  private static void padBehindTheStartAndFour0(StrongBus bus) {
    int before = bus.total(3);
    Line.disturb(bus, 0, 1, 6);
    bus.pass(1);
    CHECK.due("a start: state(0)", bus.state(0), Line.HEARING);
    bus.pass(4);
    CHECK.due("and four 0: state(0)", bus.state(0), Line.HEARING);
    bus.pass(1);
    CHECK.due("no pad: state(0)", bus.state(0), Line.FLAG);
    CHECK.due("total(3)", bus.total(3) - before, 1);
  }

  /** A bus of two in which node 0 is idle, and node 1 has still so many bit times of its pause before it. */
  private static StrongBus withLateNode(int late) {
    StrongBus bus = new StrongBus(2);
    bus.disturb(1, 1);
    // The flags end with 19; node 1 sees its first 1 later.
    Line.disturb(bus, 1, 20, 19 + late);
    bus.pass(19 + 8 + 3);
    states(bus, "behind the flags", Line.IDLE, Line.PAUSE);
    return bus;
  }

  private static void states(StrongBus bus, String when, int zero, int one) {
    CHECK.due(when + ": state(0)", bus.state(0), zero);
    CHECK.due(when + ": state(1)", bus.state(1), one);
  }
}
