/** Promise 8: T and R above all; the frames that wait, came and were lost stand in the tests of request and take, too. */
public final class CountTest {
  private static final Check CHECK = new Check("promise 8, count");

  public static void main(String[] args) {
    refuses();
    countsFrames();
    tOfASender();
    rOfAHearer();
    aLoserIsHearing();
    tGoesBackTo0();
    rGoesBackTo127();
    passiveByR();
    aFlagThatIsNotSeen();
    zerosBehindAFlag();
    zerosBehindASendersFlag();
    shapeBehindAFlag();
    overloadsAreNotCounted();
    passiveAnswers();
    offHasNoFlag();
    offByZerosBehindAFlag();
    offForgetsBoth();
    CHECK.end();
  }

  private static void refuses() {
    StrongBus bus = new StrongBus(2);
    CHECK.badArgument("count(-1, 0)", () -> bus.count(-1, 0));
    CHECK.badArgument("count(2, 0)", () -> bus.count(2, 0));
    CHECK.badArgument("count(0, -1)", () -> bus.count(0, -1));
    CHECK.badArgument("count(0, 5)", () -> bus.count(0, 5));
    CHECK.badArgument("count(2, 5)", () -> bus.count(2, 5));
  }

  private static void countsFrames() {
    StrongBus bus = new StrongBus(2);
    for (int i = 0; i < 4; i++) {
      bus.request(0, 0, 0, 0);
      CHECK.due("count(0, 2)", bus.count(0, 2), i + 1);
    }
    for (int i = 1; i <= 4; i++) {
      bus.pass(53);
      CHECK.due("count(0, 2)", bus.count(0, 2), 4 - i);
      CHECK.due("count(1, 3)", bus.count(1, 3), i);
      CHECK.due("count(1, 4)", bus.count(1, 4), 0);
    }
    bus.request(0, 0, 0, 0);
    bus.pass(53);
    CHECK.due("count(1, 3)", bus.count(1, 3), 4);
    CHECK.due("count(1, 4)", bus.count(1, 4), 1);
    CHECK.due("count(0, 3)", bus.count(0, 3), 0);
    bus.take(1);
    CHECK.due("count(1, 3)", bus.count(1, 3), 3);
  }

  private static void tOfASender() {
    StrongBus bus = Line.withErrors(2);
    CHECK.due("8 for each error: T", bus.count(0, 0), 16);
    CHECK.due("R of the sender", bus.count(0, 1), 0);
    CHECK.due("T of the other one", bus.count(1, 0), 0);
    CHECK.due("1 for each error: R", bus.count(1, 1), 2);
    bus.pass(50);
    CHECK.due("1 less for a frame sent: T", bus.count(0, 0), 15);
    CHECK.due("1 less for a frame heard: R", bus.count(1, 1), 1);
    for (int i = 0; i < 2; i++) {
      bus.pass(3);
      bus.request(0, 0, 0, 0);
      bus.pass(50);
    }
    CHECK.due("T", bus.count(0, 0), 13);
    CHECK.due("not below 0: R", bus.count(1, 1), 0);
    StrongBus fresh = new StrongBus(2);
    fresh.request(0, 0, 0, 0);
    fresh.pass(50);
    CHECK.due("not below 0: T", fresh.count(0, 0), 0);
  }

  private static void rOfAHearer() {
    StrongBus bus = new StrongBus(2);
    bus.disturb(1, 1);
    bus.pass(7);
    CHECK.due("PAD: R", bus.count(1, 1), 1);
    bus.pass(6);
    CHECK.due("its flag: R", bus.count(1, 1), 1);
    bus.pass(1);
    CHECK.due("a 0 in the first bit time behind it: R", bus.count(1, 1), 9);
    bus.pass(100);
    CHECK.due("no more than that: R", bus.count(1, 1), 9);
    CHECK.due("the other one saw a 1 there: R", bus.count(0, 1), 1);
    bus.filter(1, 1, 1);
    bus.request(0, 0, 0, 0);
    bus.pass(60);
    CHECK.due("1 less, taken or not: R", bus.count(1, 1), 8);
  }

  private static void disturbMany(StrongBus bus, int node, int from, int to) {
    for (int n = from; n <= to; n++) {
      bus.disturb(node, n);
    }
  }

  /** A bus of two at rest where R of node 1 is 169. */
  private static StrongBus withPassiveHearer() {
    StrongBus bus = new StrongBus(2);
    bus.disturb(1, 1);
    // A flag from 8 on of which it sees nothing, and 0 behind it up to 125: 14 times eight.
    disturbMany(bus, 1, 8, 13);
    disturbMany(bus, 1, 20, 125);
    bus.pass(200);
    CHECK.due("1, six times 8, 8, and 14 times 8: R", bus.count(1, 1), 1 + 48 + 8 + 112);
    return bus;
  }

  private static void passiveByR() {
    StrongBus bus = withPassiveHearer();
    bus.request(1, 0, 0, 0);
    bus.disturb(1, 42);
    bus.pass(42);
    CHECK.due("ANSWER of a passive one: T", bus.count(1, 0), 0);
    CHECK.due("total(6)", bus.total(6), 0);
    // Its flag, eight 1, a pause and a suspension.
    bus.pass(6 + 8 + 3);
    CHECK.due("state(1)", bus.state(1), Line.SUSPENDED);

    StrongBus edge = withPassiveHearer();
    edge.request(0, 0, 0, 0);
    edge.request(0, 0, 0, 0);
    edge.pass(106);
    CHECK.due("R", edge.count(1, 1), 126);
    edge.disturb(1, 1);
    edge.pass(7);
    CHECK.due("R", edge.count(1, 1), 127);
    edge.pass(1);
    CHECK.due("127 is not passive: its flag", edge.level(0), 0);

    StrongBus above = withPassiveHearer();
    above.request(0, 0, 0, 0);
    above.pass(53);
    above.disturb(1, 1);
    above.pass(7);
    CHECK.due("R", above.count(1, 1), 128);
    above.pass(1);
    CHECK.due("128 is passive: its flag", above.level(0), 1);
    CHECK.due("state(1)", above.state(1), Line.FLAG);
  }

  private static void aLoserIsHearing() {
    StrongBus bus = new StrongBus(3);
    bus.request(0, 1365, 0, 0);
    bus.request(1, 1364, 0, 0);
    bus.disturb(0, 13);
    bus.pass(13);
    CHECK.due("SHAPE: state(0)", bus.state(0), Line.FLAG);
    CHECK.due("T", bus.count(0, 0), 0);
    CHECK.due("R", bus.count(0, 1), 1);
  }

  private static void tGoesBackTo0() {
    StrongBus bus = Line.withErrors(1);
    for (int t = 7; t >= -1; t--) {
      bus.pass(53);
      CHECK.due("T", bus.count(0, 0), t < 0 ? 0 : t);
      bus.request(0, 0, 0, 0);
    }
  }

  private static void rGoesBackTo127() {
    StrongBus bus = withPassiveHearer();
    bus.request(0, 0, 0, 0);
    bus.pass(50);
    CHECK.due("a frame heard: R", bus.count(1, 1), 127);
    bus.pass(3);
    bus.request(0, 0, 0, 0);
    bus.pass(50);
    CHECK.due("another one: R", bus.count(1, 1), 126);
  }

  private static void aFlagThatIsNotSeen() {
    StrongBus hearing = new StrongBus(2);
    hearing.disturb(1, 1);
    hearing.disturb(1, 8);
    hearing.disturb(1, 13);
    hearing.pass(8);
    CHECK.due("the first of a flag: R", hearing.count(1, 1), 9);
    hearing.pass(5);
    CHECK.due("the sixth of it: R", hearing.count(1, 1), 17);
    CHECK.due("T", hearing.count(1, 0), 0);

    StrongBus sending = new StrongBus(2);
    sending.request(0, 0, 0, 0);
    disturbMany(sending, 0, 1, 7);
    sending.pass(7);
    CHECK.due("BIT, and six times a flag: T", sending.count(0, 0), 56);
    CHECK.due("R", sending.count(0, 1), 0);

    StrongBus passive = Line.withErrors(16);
    disturbMany(passive, 0, 1, 7);
    passive.pass(7);
    CHECK.due("a passive flag is not looked at: T", passive.count(0, 0), 136);

    StrongBus turning = Line.withErrors(14);
    disturbMany(turning, 0, 1, 7);
    turning.pass(7);
    CHECK.due("a flag stays what it was: T", turning.count(0, 0), 112 + 56);
  }

  private static void zerosBehindAFlag() {
    StrongBus bus = new StrongBus(2);
    bus.disturb(1, 1);
    // The other one's flag is 14 .. 19: six 0, and two, and eight more.
    disturbMany(bus, 1, 20, 29);
    bus.pass(20);
    CHECK.due("seven 0: R", bus.count(1, 1), 9);
    bus.pass(1);
    CHECK.due("eight 0: R", bus.count(1, 1), 17);
    bus.pass(7);
    CHECK.due("fifteen 0: R", bus.count(1, 1), 17);
    bus.pass(1);
    CHECK.due("sixteen 0: R", bus.count(1, 1), 25);
    bus.pass(7);
    CHECK.due("state(1)", bus.state(1), Line.AFTER);
    bus.pass(1);
    CHECK.due("state(1)", bus.state(1), Line.PAUSE);
    CHECK.due("R", bus.count(1, 1), 25);
  }

  private static void zerosBehindASendersFlag() {
    StrongBus bus = new StrongBus(2);
    bus.request(0, 0, 0, 0);
    bus.disturb(0, 1);
    // Its flag is 2 .. 7, the other one's is 7 .. 12: five 0 behind its own, and three more.
    disturbMany(bus, 0, 13, 15);
    bus.pass(14);
    CHECK.due("the first 0 is nothing for a sender: T", bus.count(0, 0), 8);
    CHECK.due("R", bus.count(0, 1), 0);
    bus.pass(1);
    CHECK.due("eight 0: T", bus.count(0, 0), 16);
    CHECK.due("R", bus.count(0, 1), 0);
  }

  private static void shapeBehindAFlag() {
    StrongBus sending = new StrongBus(2);
    sending.request(0, 0, 0, 0);
    sending.disturb(0, 1);
    sending.disturb(0, 14);
    sending.pass(14);
    CHECK.due("T", sending.count(0, 0), 16);
    CHECK.due("R", sending.count(0, 1), 0);

    StrongBus hearing = new StrongBus(2);
    hearing.disturb(1, 1);
    hearing.disturb(1, 27);
    hearing.pass(27);
    CHECK.due("R", hearing.count(1, 1), 10);
    CHECK.due("T", hearing.count(1, 0), 0);
  }

  private static void overloadsAreNotCounted() {
    StrongBus bus = new StrongBus(2);
    bus.request(0, 0, 0, 0);
    bus.disturb(1, 51);
    bus.disturb(0, 54);
    bus.disturb(1, 54);
    disturbMany(bus, 0, 59, 69);
    disturbMany(bus, 1, 59, 69);
    bus.pass(200);
    CHECK.due("total(7)", bus.total(7), 2);
    for (int node = 0; node < 2; node++) {
      CHECK.due("neither a flag nor what is behind it: T", bus.count(node, 0), 0);
      CHECK.due("neither a flag nor what is behind it: R", bus.count(node, 1), 0);
    }
  }

  private static void passiveAnswers() {
    StrongBus active = Line.withErrors(15);
    active.disturb(0, 42);
    active.pass(42);
    CHECK.due("120 is not passive: T", active.count(0, 0), 128);
    CHECK.due("total(6)", active.total(6), 1);
    active.pass(1);
    CHECK.due("it is passive now: the wire", active.level(0), 1);

    StrongBus passive = Line.withErrors(16);
    passive.disturb(0, 42);
    passive.pass(42);
    CHECK.due("128 is passive: T", passive.count(0, 0), 128);
    CHECK.due("it flags: state(0)", passive.state(0), Line.FLAG);
    CHECK.due("it is not counted: total(6)", passive.total(6), 0);
  }

  private static void offHasNoFlag() {
    // T is 112, 168 by a flag that it does not see, and 8 more for each error from then on.
    StrongBus bus = Line.withErrors(14);
    disturbMany(bus, 0, 1, 7);
    // The other one's flag ends with 12; eight 1, a pause and a suspension follow.
    bus.pass(12 + 8 + 3 + 8);
    CHECK.due("T", bus.count(0, 0), 168);
    Line.errAtStart(bus, 0, 10);
    CHECK.due("T", bus.count(0, 0), 248);
    CHECK.due("state(0)", bus.state(0), Line.IDLE);
    bus.pass(20);
    bus.disturb(0, 1);
    bus.pass(1);
    CHECK.due("T", bus.count(0, 0), 256);
    CHECK.due("no flag of an off one: state(0)", bus.state(0), Line.OFF);
  }

  private static void offByZerosBehindAFlag() {
    StrongBus bus = Line.withErrors(15);
    // BIT makes it 128, and its flag passive; the other one's flag is 8 .. 13, its own ends with 7.
    bus.disturb(0, 1);
    disturbMany(bus, 0, 14, 150);
    bus.pass(7 + 8 * 15);
    CHECK.due("fifteen times eight 0: T", bus.count(0, 0), 248);
    bus.pass(7);
    CHECK.due("state(0)", bus.state(0), Line.AFTER);
    bus.pass(1);
    CHECK.due("sixteen times: T", bus.count(0, 0), 256);
    CHECK.due("state(0)", bus.state(0), Line.OFF);
    CHECK.due("count(0, 2)", bus.count(0, 2), 0);
  }

  private static void offForgetsBoth() {
    StrongBus bus = new StrongBus(2);
    bus.disturb(0, 1);
    bus.pass(40);
    CHECK.due("R", bus.count(0, 1), 9);
    bus.request(0, 0, 0, 0);
    Line.errAtStart(bus, 0, 32);
    CHECK.due("state(0)", bus.state(0), Line.OFF);
    CHECK.due("R stays while it is off", bus.count(0, 1), 9);
    bus.pass(100);
    CHECK.due("state(0)", bus.state(0), Line.IDLE);
    CHECK.due("T", bus.count(0, 0), 0);
    CHECK.due("R", bus.count(0, 1), 0);
  }
}
