/** Promise 7, and the ways from state to state. */
public final class StateTest {
  private static final Check CHECK = new Check("promise 7, state");
  private static final int[] LONG = Line.core(1365, 2, 43690);

  public static void main(String[] args) {
    refuses();
    aFrameWithoutErrors();
    anErrorOfAHearingNode();
    whereAHearingNodeErrs();
    whereASendingNodeErrs();
    aZeroBehindTheFirstOne();
    overloadInThePause();
    overloadInTheLastBitOfTheTail();
    overloadBehindAnOverload();
    startInThePause();
    suspended();
    aPassiveHearerIsNotSuspended();
    noSuspensionBehindAnOverload();
    off();
    offCountsFromTheNextBitTimeOn();
    offCountsAnew();
    CHECK.end();
  }

  private static void states(StrongBus bus, String when, int zero, int one) {
    CHECK.due(when + ": state(0)", bus.state(0), zero);
    CHECK.due(when + ": state(1)", bus.state(1), one);
  }

  private static void refuses() {
    StrongBus bus = new StrongBus(3);
    CHECK.badArgument("state(-1)", () -> bus.state(-1));
    CHECK.badArgument("state(3)", () -> bus.state(3));
    CHECK.badArgument("state(MAX)", () -> bus.state(Integer.MAX_VALUE));
    CHECK.due("state(2)", bus.state(2), Line.IDLE);
  }

  private static void aFrameWithoutErrors() {
    StrongBus bus = new StrongBus(2);
    bus.request(0, 0, 0, 0);
    states(bus, "before the start", Line.IDLE, Line.IDLE);
    bus.pass(1);
    states(bus, "the start", Line.SENDING, Line.HEARING);
    bus.pass(48);
    states(bus, "the last but one of the tail", Line.SENDING, Line.HEARING);
    bus.pass(1);
    states(bus, "the last of the tail", Line.PAUSE, Line.PAUSE);
    bus.pass(2);
    states(bus, "two of the pause", Line.PAUSE, Line.PAUSE);
    bus.pass(1);
    states(bus, "three of the pause", Line.IDLE, Line.IDLE);
  }

  private static void anErrorOfAHearingNode() {
    StrongBus bus = new StrongBus(2);
    bus.disturb(1, 1);
    bus.pass(6);
    states(bus, "a false start and five 1", Line.IDLE, Line.HEARING);
    bus.pass(1);
    states(bus, "a sixth 1", Line.IDLE, Line.FLAG);
    bus.pass(1);
    states(bus, "the flag is a start", Line.HEARING, Line.FLAG);
    bus.pass(4);
    states(bus, "five 0", Line.HEARING, Line.FLAG);
    bus.pass(1);
    states(bus, "six 0", Line.FLAG, Line.AFTER);
    bus.pass(6);
    states(bus, "the other flag", Line.AFTER, Line.AFTER);
    bus.pass(7);
    states(bus, "seven 1", Line.AFTER, Line.AFTER);
    bus.pass(1);
    states(bus, "eight 1", Line.PAUSE, Line.PAUSE);
    bus.pass(3);
    states(bus, "pause", Line.IDLE, Line.IDLE);
  }

  /** What node 1 makes of a bit that it alone sees wrong, while node 0 sends the long frame: the number of a total. */
  private static int errorAt(int bitTime) {
    StrongBus bus = new StrongBus(3);
    bus.request(0, 1365, 2, 43690);
    bus.disturb(1, bitTime);
    bus.pass(bitTime);
    return errorOf(bus, 1);
  }

  private static int errorOf(StrongBus bus, int node) {
    if (bus.state(node) != Line.FLAG) {
      return 0;
    }
    for (int which = 2; which <= 7; which++) {
      if (bus.total(which) == 1) {
        return which;
      }
    }
    return -1;
  }

  private static void whereAHearingNodeErrs() {
    int end = LONG.length + 1;
    for (int k : new int[] {2, 12, 16, 17, 26}) {
      CHECK.due("hearing, bit time " + k, errorAt(k), 0);
    }
    for (int k : new int[] {13, 14, 15}) {
      CHECK.due("hearing, one of bits 12 .. 14", errorAt(k), 4);
    }
    CHECK.due("hearing, the pad behind bit 16", errorAt(18), 3);
    CHECK.due("hearing, bit 17: 0000 is no error", errorAt(19), 0);
    CHECK.due("hearing, bit 18: 0011 is above 2", errorAt(20), 4);
    CHECK.due("hearing, the end", errorAt(end), 4);
    CHECK.due("hearing, the answer", errorAt(end + 1), 0);
    CHECK.due("hearing, the gap", errorAt(end + 2), 4);
    for (int k = 3; k <= 8; k++) {
      CHECK.due("hearing, number " + (k - 2) + " of the tail", errorAt(end + k), 4);
    }
    CHECK.due("hearing, the last of the tail", errorAt(end + 9), 7);

    StrongBus bus = new StrongBus(3);
    bus.request(0, 1365, 2, 43690);
    bus.disturb(1, 26);
    bus.pass(end + 1);
    CHECK.due("hearing, a wrong core is none before the gap", errorOf(bus, 1), 0);
    bus.pass(1);
    CHECK.due("hearing, CHECK in the gap", errorOf(bus, 1), 5);

    StrongBus both = new StrongBus(3);
    both.request(0, 1365, 2, 43690);
    both.disturb(1, 26);
    both.disturb(1, end + 2);
    both.pass(end + 2);
    CHECK.due("hearing, CHECK comes before SHAPE", errorOf(both, 1), 5);

    StrongBus large = new StrongBus(3);
    large.request(0, 1365, 2, 43690);
    large.disturb(1, 16);
    large.pass(18);
    CHECK.due("hearing, bit 15 is 1: none before bit 18", errorOf(large, 1), 0);
    large.pass(1);
    CHECK.due("hearing, then it is above 2", errorOf(large, 1), 4);

    // It takes the pad for bit 17, and bit 17 for bit 18: 1010.
    StrongBus ten = new StrongBus(3);
    ten.request(0, 1365, 0, 0);
    ten.disturb(1, 16);
    ten.pass(19);
    CHECK.due("hearing, bit 15 counts for 8", errorOf(ten, 1), 4);
  }

  private static int sendingErrorAt(int bitTime) {
    StrongBus bus = new StrongBus(3);
    bus.request(0, 1365, 2, 43690);
    bus.disturb(0, bitTime);
    bus.pass(bitTime);
    return errorOf(bus, 0);
  }

  private static void whereASendingNodeErrs() {
    int end = LONG.length + 1;
    for (int k : new int[] {1, 3, 11, 13, 16, 18, 20, 21, 36, end - 1, end, end + 2, end + 3, end + 8, end + 9}) {
      CHECK.due("sending, bit time " + k, sendingErrorAt(k), 2);
    }
    for (int k : new int[] {2, 4, 12}) {
      CHECK.due("sending, a 1 of the ID", sendingErrorAt(k), 0);
    }
    CHECK.due("sending, the answer", sendingErrorAt(end + 1), 6);
  }

  private static void aZeroBehindTheFirstOne() {
    for (int k = 1; k <= 7; k++) {
      StrongBus bus = new StrongBus(2);
      bus.disturb(1, 1);
      // Its flag is 8 .. 13, the other one's 14 .. 19, the first 1 comes in 20.
      bus.disturb(1, 20 + k);
      bus.pass(20 + k - 1);
      CHECK.due("before: state(1)", bus.state(1), Line.AFTER);
      bus.pass(1);
      CHECK.due("a 0 as number " + k + " behind the first 1: state(1)", bus.state(1), Line.FLAG);
      CHECK.due("total(4)", bus.total(4), 1);
    }
    StrongBus first = new StrongBus(2);
    first.disturb(1, 1);
    first.disturb(1, 20);
    first.pass(27);
    CHECK.due("no 1 was seen before: total(4)", first.total(4), 0);
    states(first, "the one has seen a 1 less", Line.PAUSE, Line.AFTER);
    first.pass(1);
    states(first, "then both", Line.PAUSE, Line.PAUSE);
  }

  private static void overloadInThePause() {
    for (int k = 1; k <= 2; k++) {
      StrongBus bus = new StrongBus(3);
      bus.request(0, 0, 0, 0);
      bus.disturb(1, 50 + k);
      bus.pass(50 + k);
      states(bus, "a 0 in bit " + k + " of the pause", Line.PAUSE, Line.FLAG);
      CHECK.due("total(7)", bus.total(7), 1);
      bus.pass(1);
      if (k == 1) {
        states(bus, "the others see it in the second one", Line.FLAG, Line.FLAG);
        CHECK.due("total(7)", bus.total(7), 3);
      } else {
        states(bus, "the others see it in the third one", Line.HEARING, Line.FLAG);
        CHECK.due("total(7)", bus.total(7), 1);
      }
      bus.pass(5);
      CHECK.due("six bit times", bus.state(1), Line.AFTER);
    }
  }

  private static void overloadInTheLastBitOfTheTail() {
    StrongBus bus = new StrongBus(2);
    bus.request(0, 0, 0, 0);
    bus.disturb(1, 50);
    bus.pass(50);
    states(bus, "a 0 in the last bit of the tail", Line.PAUSE, Line.FLAG);
    CHECK.due("the frame came all the same", bus.count(1, 3), 1);
    CHECK.due("it was sent", bus.total(1), 1);
    CHECK.due("total(7)", bus.total(7), 1);
    CHECK.due("total(4)", bus.total(4), 0);
    bus.pass(1);
    states(bus, "the other one flags, too", Line.FLAG, Line.FLAG);
    CHECK.due("total(7)", bus.total(7), 2);
  }

  private static void overloadBehindAnOverload() {
    StrongBus bus = new StrongBus(2);
    bus.request(0, 0, 0, 0);
    bus.disturb(1, 51);
    // Its flag is 52 .. 57, the other one's 53 .. 58, the first 1 comes in 59.
    bus.disturb(1, 62);
    bus.pass(61);
    states(bus, "behind the flags", Line.AFTER, Line.AFTER);
    bus.pass(1);
    CHECK.due("a 0 there: state(1)", bus.state(1), Line.FLAG);
    CHECK.due("total(7)", bus.total(7), 3);
    CHECK.due("no SHAPE: total(4)", bus.total(4), 0);
    bus.pass(1);
    CHECK.due("it drives 0", bus.level(0), 0);
    CHECK.due("so does the other one: total(7)", bus.total(7), 4);
  }

  private static void startInThePause() {
    StrongBus bus = new StrongBus(2);
    bus.request(0, 0, 0, 0);
    bus.disturb(1, 53);
    bus.pass(53);
    states(bus, "a 0 in the third bit", Line.IDLE, Line.HEARING);
    CHECK.due("total(7)", bus.total(7), 0);
    bus.pass(5);
    CHECK.due("it is bit 0: five 1 behind it", bus.state(1), Line.HEARING);
    bus.pass(1);
    CHECK.due("a sixth 1: state(1)", bus.state(1), Line.FLAG);
    CHECK.due("total(3)", bus.total(3), 1);
  }

  private static void suspended() {
    StrongBus bus = Line.withErrors(17);
    bus.request(0, 0, 0, 0);
    bus.pass(50);
    CHECK.due("T", bus.count(0, 0), 135);
    bus.pass(2);
    states(bus, "pause", Line.PAUSE, Line.PAUSE);
    bus.pass(1);
    states(bus, "a passive one that sent", Line.SUSPENDED, Line.IDLE);
    bus.pass(7);
    states(bus, "seven 1", Line.SUSPENDED, Line.IDLE);
    bus.pass(1);
    states(bus, "eight 1", Line.IDLE, Line.IDLE);
    bus.pass(1);
    states(bus, "its next frame", Line.SENDING, Line.HEARING);
    bus.pass(52);
    states(bus, "suspended again", Line.SUSPENDED, Line.IDLE);
    bus.request(0, 0, 0, 0);
    bus.request(1, 2047, 0, 0);
    bus.pass(1);
    states(bus, "the other one begins", Line.HEARING, Line.SENDING);

    StrongBus edge = Line.withErrors(16);
    CHECK.due("T", edge.count(0, 0), 128);
    edge.pass(50);
    CHECK.due("T", edge.count(0, 0), 127);
    edge.pass(3);
    CHECK.due("127 is not passive: state(0)", edge.state(0), Line.IDLE);
  }

  private static void aPassiveHearerIsNotSuspended() {
    StrongBus bus = Line.withErrors(18);
    bus.pass(50 + 3 + 8);
    bus.request(1, 0, 0, 0);
    bus.pass(53);
    CHECK.due("it is passive: T", bus.count(0, 0), 143);
    states(bus, "it was hearing last", Line.IDLE, Line.IDLE);
    bus.request(0, 9, 0, 0);
    bus.request(1, 0, 0, 0);
    bus.pass(53);
    CHECK.due("its frame waits: count(0, 2)", bus.count(0, 2), 1);
    states(bus, "it was sending, but lost", Line.IDLE, Line.IDLE);
  }

  private static void noSuspensionBehindAnOverload() {
    StrongBus bus = Line.withErrors(18);
    bus.disturb(0, 51);
    bus.pass(51);
    states(bus, "an overload", Line.FLAG, Line.PAUSE);
    bus.pass(1);
    CHECK.due("its flag is never a passive one", bus.level(0), 0);
    // Its flag is 52 .. 57, the other one's 53 .. 58, eight 1 follow, and a pause.
    bus.pass(6 + 8 + 3);
    CHECK.due("it is passive: T", bus.count(0, 0), 143);
    states(bus, "what it was last is none", Line.IDLE, Line.IDLE);
  }

  private static void off() {
    StrongBus bus = Line.withErrors(31);
    CHECK.due("T", bus.count(0, 0), 248);
    bus.disturb(0, 1);
    bus.pass(1);
    CHECK.due("state(0)", bus.state(0), Line.OFF);
    CHECK.due("T", bus.count(0, 0), 256);
    // The other one sees the start and six 1, and flags; eighty-eight 1 follow.
    CHECK.holds("the wire", Line.passing(bus, 12).equals("111111000000"));
    bus.pass(87);
    CHECK.due("87 of 88", bus.state(0), Line.OFF);
    CHECK.due("T", bus.count(0, 0), 256);
    bus.pass(1);
    CHECK.due("88 of 88", bus.state(0), Line.IDLE);
    CHECK.due("T", bus.count(0, 0), 0);
    CHECK.due("it can send again", bus.request(0, 0, 0, 0), 1);
    CHECK.due("it does", bus.pass(50), 1);

    StrongBus edge = Line.withErrors(31);
    edge.pass(50 + 3 + 8);
    edge.request(0, 0, 0, 0);
    CHECK.due("T", edge.count(0, 0), 247);
    Line.errAtStart(edge, 0, 1);
    CHECK.due("T", edge.count(0, 0), 255);
    CHECK.due("255 is not off", edge.state(0), Line.IDLE);
    Line.errAtStart(edge, 0, 1);
    CHECK.due("T", edge.count(0, 0), 263);
    CHECK.due("263 is off", edge.state(0), Line.OFF);
  }

  private static void offCountsFromTheNextBitTimeOn() {
    StrongBus bus = Line.withErrors(31);
    // In the tail none but the sender sees a 0, and all that follows is 1.
    bus.disturb(0, 44);
    bus.pass(44);
    CHECK.due("state(0)", bus.state(0), Line.OFF);
    bus.pass(87);
    CHECK.due("87 of 88", bus.state(0), Line.OFF);
    bus.pass(1);
    CHECK.due("88 of 88", bus.state(0), Line.IDLE);

    bus.request(0, 0, 0, 0);
    Line.errAtStart(bus, 0, 32);
    CHECK.due("off again: state(0)", bus.state(0), Line.OFF);
    bus.pass(12 + 87);
    CHECK.due("87 of 88", bus.state(0), Line.OFF);
    bus.pass(1);
    CHECK.due("88 of 88", bus.state(0), Line.IDLE);
  }

  private static void offCountsAnew() {
    StrongBus tenOnly = Line.withErrors(32);
    tenOnly.pass(12);
    tenOnly.disturb(0, 11);
    tenOnly.pass(11 + 87);
    CHECK.due("ten 1 and a 0 are nothing", tenOnly.state(0), Line.OFF);
    tenOnly.pass(1);
    CHECK.due("88 behind them", tenOnly.state(0), Line.IDLE);

    StrongBus more = Line.withErrors(32);
    more.pass(12);
    more.disturb(0, 17);
    more.pass(17 + 76);
    CHECK.due("the first eleven count, the five behind them do not", more.state(0), Line.OFF);
    more.pass(1);
    CHECK.due("77 behind them", more.state(0), Line.IDLE);

    StrongBus silent = Line.withErrors(32);
    // The other one's flag, eight 1 behind it, and its pause.
    silent.pass(12 + 8 + 3);
    silent.request(1, 0, 0, 0);
    silent.pass(42);
    CHECK.due("an off one does not answer: state(1)", silent.state(1), Line.FLAG);
    CHECK.due("total(6)", silent.total(6), 1);
  }
}
