/** The paragraph of the terms on what an error does. */
@Section("Terms")
public final class ErrorTest {
  private static final Check CHECK = new Check(ErrorTest.class);

  public static void main(String[] args) {
    CHECK.run();
  }

  @Says("AN ERROR of a sending node: T is 8 more")
  static void tIs8More() {
    StrongBus bit = new StrongBus(2);
    bit.request(0, 0, 0, 0);
    bit.disturb(0, 1);
    bit.pass(1);
    counts(bit, 0, "BIT", 8, 0);
    StrongBus answer = new StrongBus(2);
    answer.request(0, 0, 0, 0);
    answer.disturb(0, Line.ANSWER);
    answer.pass(Line.ANSWER);
    counts(answer, 0, "ANSWER", 8, 0);
    StrongBus passive = Line.withErrors(20);
    counts(passive, 0, "BIT of a passive one, too", 160, 0);
  }

  @Says("(not for ANSWER, if it is passive);")
  static void answerOfAPassiveOne() {
    StrongBus at120 = Line.withErrors(15);
    at120.disturb(0, Line.ANSWER);
    at120.pass(Line.ANSWER);
    counts(at120, 0, "120 is not passive", 128, 0);
    StrongBus at127 = Line.withErrorsAndAFrame(16);
    at127.request(0, 0, 0, 0);
    at127.disturb(0, Line.ANSWER);
    at127.pass(Line.ANSWER);
    counts(at127, 0, "nor is 127", 135, 0);
    StrongBus at128 = Line.withErrors(16);
    at128.disturb(0, Line.ANSWER);
    at128.pass(Line.ANSWER);
    counts(at128, 0, "128 is", 128, 0);
    CHECK.due("but it flags: state(0)", at128.state(0), Line.FLAG);
    CHECK.due("its frame waits: count(0, 2)", at128.count(0, 2), 1);
    StrongBus byR = Line.withR128();
    byR.request(1, 0, 0, 0);
    byR.disturb(1, Line.ANSWER);
    byR.pass(Line.ANSWER);
    counts(byR, 1, "passive by R", 0, 128);
  }

  @Says("of a hearing one: R is 1 more.")
  static void rIs1More() {
    StrongBus pad = new StrongBus(2);
    pad.disturb(1, 1);
    pad.pass(7);
    counts(pad, 1, "PAD", 0, 1);
    StrongBus shape = new StrongBus(2);
    shape.request(0, 0, 0, 0);
    shape.disturb(1, Line.END);
    shape.pass(Line.END);
    counts(shape, 1, "SHAPE", 0, 1);
    StrongBus check = new StrongBus(2);
    check.request(0, Line.LONG_ID, 2, Line.LONG_DATA);
    check.disturb(1, 26);
    check.pass(Line.LONG_END + 2);
    counts(check, 1, "CHECK", 0, 1);
    StrongBus passive = Line.withR128();
    passive.disturb(1, 1);
    passive.pass(7);
    counts(passive, 1, "of a passive one, too", 0, 129);
  }

  @Says("of a hearing one: R is 1 more.")
  static void oneWhoseIdLostIsHearing() {
    StrongBus bus = new StrongBus(3);
    bus.request(0, 1365, 0, 0);
    bus.request(1, 1364, 0, 0);
    bus.disturb(0, 13);
    bus.pass(13);
    CHECK.due("SHAPE: total(4)", bus.total(4), 1);
    counts(bus, 0, "SHAPE", 0, 1);
  }

  @Says("It flags from the next bit time on:")
  static void flagsFromTheNextBitTimeOn() {
    StrongBus bus = new StrongBus(2);
    bus.request(0, 0, 0, 0);
    bus.disturb(1, Line.TAIL);
    bus.pass(Line.TAIL);
    CHECK.due("not yet", bus.level(0), 1);
    CHECK.due("state(1)", bus.state(1), Line.FLAG);
    bus.pass(1);
    CHECK.due("now", bus.level(0), 0);
    StrongBus sending = new StrongBus(2);
    sending.request(0, 0, 0, 0);
    sending.disturb(0, Line.TAIL);
    sending.pass(Line.TAIL);
    CHECK.due("not yet", sending.level(0), 1);
    CHECK.due("state(0)", sending.state(0), Line.FLAG);
    sending.pass(1);
    CHECK.due("now", sending.level(0), 0);
  }

  @Says("a passive flag if it is passive now,")
  static void passiveByT() {
    StrongBus at119 = Line.withErrorsAndAFrame(15);
    at119.request(0, 0, 0, 0);
    at119.disturb(0, Line.TAIL);
    at119.pass(Line.TAIL);
    counts(at119, 0, "119 and 8", 127, 0);
    at119.pass(1);
    CHECK.due("it is not passive", at119.level(0), 0);
    StrongBus at120 = Line.withErrors(15);
    at120.disturb(0, Line.TAIL);
    at120.pass(Line.TAIL);
    counts(at120, 0, "120 and 8", 128, 0);
    at120.pass(1);
    CHECK.due("it is passive", at120.level(0), 1);
  }

  @Says("a passive flag if it is passive now,")
  static void passiveByR() {
    StrongBus at126 = Line.withR127();
    at126.request(0, 0, 0, 0);
    at126.pass(Line.WITH_PAUSE);
    at126.disturb(1, 1);
    at126.pass(7);
    counts(at126, 1, "126 and 1", 0, 127);
    at126.pass(1);
    CHECK.due("it is not passive", at126.level(0), 0);
    StrongBus at127 = Line.withR127();
    at127.disturb(1, 1);
    at127.pass(7);
    counts(at127, 1, "127 and 1", 0, 128);
    at127.pass(1);
    CHECK.due("it is passive", at127.level(0), 1);
    CHECK.due("state(1)", at127.state(1), Line.FLAG);
  }

  @Says("for an overload never.")
  static void anOverloadOfAPassiveOne() {
    StrongBus byT = Line.withErrors(18);
    byT.disturb(0, Line.TAIL_LAST + 1);
    byT.pass(Line.TAIL_LAST + 1);
    counts(byT, 0, "T is above 127", 143, 0);
    CHECK.due("total(7)", byT.total(7), 1);
    byT.pass(1);
    CHECK.due("its flag", byT.level(0), 0);
    StrongBus byR = Line.withR128();
    byR.request(1, 0, 0, 0);
    byR.disturb(1, Line.TAIL_LAST + 2);
    byR.pass(Line.TAIL_LAST + 2);
    counts(byR, 1, "R is above 127", 0, 128);
    CHECK.due("total(7)", byR.total(7), 1);
    byR.pass(1);
    CHECK.due("its flag", byR.level(0), 0);
  }

  @Says("With T above 255 it is off.")
  static void offAbove255() {
    StrongBus at247 = Line.withErrorsAndAFrame(31);
    at247.request(0, 0, 0, 0);
    at247.disturb(0, 1);
    at247.pass(1);
    counts(at247, 0, "247 and 8", 255, 0);
    CHECK.due("it is not off: state(0)", at247.state(0), Line.FLAG);
    CHECK.due("count(0, 2)", at247.count(0, 2), 1);
    StrongBus at248 = Line.withErrors(31);
    at248.disturb(0, 1);
    at248.pass(1);
    counts(at248, 0, "248 and 8", 256, 0);
    CHECK.due("it is off, and does not flag: state(0)", at248.state(0), Line.OFF);
    CHECK.due("BIT: total(2)", at248.total(2), 32);
    StrongBus at255 = Line.withErrorsAndAFrame(31);
    at255.request(0, 0, 0, 0);
    Line.errAtStart(at255, 0, 1);
    at255.disturb(0, Line.ANSWER);
    at255.pass(Line.ANSWER);
    counts(at255, 0, "255 and an ANSWER that is not counted", 255, 0);
    CHECK.due("it is not off: state(0)", at255.state(0), Line.FLAG);
  }

  @Says("With T above 255 it is off.")
  static void notOffWithRAbove255() {
    StrongBus bus = new StrongBus(2);
    bus.disturb(1, 1);
    // PAD in 7, a flag of which it sees nothing, and 0 from 14 on: the other one's flag is 14 .. 19.
    Line.disturb(bus, 1, 8, 13);
    Line.disturb(bus, 1, 20, 200);
    bus.pass(200);
    Line.disturb(bus, 1, 1, 61);
    bus.pass(61);
    counts(bus, 1, "31 times eight 0", 0, 1 + 6 * 8 + 8 + 31 * 8);
    CHECK.due("state(1)", bus.state(1), Line.AFTER);
    bus.pass(8 + 3);
    CHECK.due("state(1)", bus.state(1), Line.IDLE);
    bus.request(0, 0, 0, 0);
    CHECK.due("it answers", bus.pass(Line.TAIL_LAST), 1);
    counts(bus, 1, "a frame heard", 0, 127);
  }

  private static void counts(StrongBus bus, int node, String when, int t, int r) {
    CHECK.due(when + ": T", bus.count(node, 0), t);
    CHECK.due(when + ": R", bus.count(node, 1), r);
  }
}
