/** The sentences of the terms on a flag. */
@Section("Terms")
public final class FlagTest {
  private static final Check CHECK = new Check(FlagTest.class);

  public static void main(String[] args) {
    CHECK.run();
  }

  @Says("FLAG: six bit times.")
  static void lastsSixBitTimes() {
    StrongBus sending = new StrongBus(2);
    sending.request(0, 0, 0, 0);
    sending.disturb(0, 1);
    sending.pass(1);
    lastsSix(sending, 0, "of a sending one");

    StrongBus hearing = new StrongBus(2);
    hearing.disturb(1, 1);
    hearing.pass(7);
    lastsSix(hearing, 1, "of a hearing one");

    StrongBus overload = new StrongBus(2);
    overload.request(0, 0, 0, 0);
    overload.disturb(1, Line.TAIL_LAST);
    overload.pass(Line.TAIL_LAST);
    lastsSix(overload, 1, "of an overload");
  }

  @Says("FLAG: six bit times.")
  static void aPassiveOneLastsAsLong() {
    StrongBus quiet = Line.withErrors(16);
    quiet.disturb(0, Line.ANSWER);
    quiet.pass(Line.ANSWER);
    lastsSix(quiet, 0, "it sees 1 only");

    StrongBus loud = Line.withErrors(16);
    loud.disturb(0, Line.ANSWER);
    Line.disturb(loud, 0, Line.ANSWER + 1, Line.ANSWER + 6);
    loud.pass(Line.ANSWER);
    lastsSix(loud, 0, "it sees 0 only");
    CHECK.due("T", loud.count(0, 0), 128);

    StrongBus both = Line.withErrors(16);
    both.disturb(0, Line.ANSWER);
    for (int k = 2; k <= 6; k += 2) {
      both.disturb(0, Line.ANSWER + k);
    }
    both.pass(Line.ANSWER);
    lastsSix(both, 0, "it sees 1 and 0 by turns");
  }

  @Says("If it drives 0 and sees 1 there: T is 8 more if it was sending when it erred,")
  static void tOfOneThatWasSending() {
    for (int k = 1; k <= 6; k++) {
      StrongBus bus = new StrongBus(2);
      bus.request(0, 0, 0, 0);
      bus.disturb(0, 1);
      bus.disturb(0, 1 + k);
      bus.pass(k);
      CHECK.due("before bit time " + k + " of the flag: T", bus.count(0, 0), 8);
      bus.pass(1);
      CHECK.due("in it: T", bus.count(0, 0), 16);
      CHECK.due("R", bus.count(0, 1), 0);
    }
    StrongBus all = new StrongBus(2);
    all.request(0, 0, 0, 0);
    Line.disturb(all, 0, 1, 8);
    all.pass(7);
    CHECK.due("six times: T", all.count(0, 0), 8 + 6 * 8);
    all.pass(1);
    CHECK.due("not behind the flag: T", all.count(0, 0), 8 + 6 * 8);
  }

  @Says("R if it was hearing")
  static void rOfOneThatWasHearing() {
    for (int k = 1; k <= 6; k++) {
      StrongBus bus = new StrongBus(2);
      bus.disturb(1, 1);
      bus.disturb(1, 7 + k);
      bus.pass(7 + k - 1);
      CHECK.due("before bit time " + k + " of the flag: R", bus.count(1, 1), 1);
      bus.pass(1);
      CHECK.due("in it: R", bus.count(1, 1), 9);
      CHECK.due("T", bus.count(1, 0), 0);
    }
    StrongBus all = new StrongBus(2);
    all.disturb(1, 1);
    Line.disturb(all, 1, 8, 14);
    all.pass(13);
    CHECK.due("six times: R", all.count(1, 1), 1 + 6 * 8);
    all.pass(1);
    CHECK.due("not behind the flag: R", all.count(1, 1), 1 + 6 * 8);
  }

  @Says("R if it was hearing")
  static void rOfOneWhoseIdLost() {
    StrongBus bus = new StrongBus(3);
    bus.request(0, 1365, 0, 0);
    bus.request(1, 1364, 0, 0);
    bus.disturb(0, 13);
    bus.disturb(0, 14);
    bus.pass(14);
    CHECK.due("R", bus.count(0, 1), 9);
    CHECK.due("T", bus.count(0, 0), 0);
  }

  @Says("(neither for an overload);")
  static void neitherForAnOverload() {
    StrongBus bus = Line.withErrors(2);
    // Node 1's flag is 52 .. 57, that of node 0 is 53 .. 58.
    bus.disturb(1, Line.TAIL_LAST + 1);
    Line.disturb(bus, 1, 52, 57);
    Line.disturb(bus, 0, 53, 58);
    bus.pass(51);
    CHECK.due("state(1)", bus.state(1), Line.FLAG);
    bus.pass(1);
    CHECK.due("state(0)", bus.state(0), Line.FLAG);
    bus.pass(6);
    CHECK.due("total(7)", bus.total(7), 2);
    CHECK.due("one that sent before: T", bus.count(0, 0), 15);
    CHECK.due("R", bus.count(0, 1), 0);
    CHECK.due("one that heard before: T", bus.count(1, 0), 0);
    CHECK.due("R", bus.count(1, 1), 1);
  }

  @Says("If it drives 0 and sees 1 there: T is 8 more if it was sending when it erred,")
  static void aPassiveFlagIsNotLookedAt() {
    StrongBus bus = Line.withErrors(16);
    bus.disturb(0, 1);
    bus.pass(7);
    CHECK.due("it drives 1 and sees 1: T", bus.count(0, 0), 136);
    StrongBus hearing = Line.withR128();
    hearing.disturb(1, 1);
    hearing.pass(13);
    CHECK.due("it drives 1 and sees 1: R", hearing.count(1, 1), 129);
  }

  @Says("If it drives 0 and sees 1 there: T is 8 more if it was sending when it erred,")
  static void aFlagStaysWhatItWas() {
    StrongBus bus = Line.withErrors(14);
    Line.disturb(bus, 0, 1, 7);
    bus.pass(1);
    CHECK.due("T", bus.count(0, 0), 120);
    CHECK.due("its flag", Line.passing(bus, 6), "000000");
    CHECK.due("above 127 from its first bit time on: T", bus.count(0, 0), 120 + 6 * 8);
  }

  private static void lastsSix(StrongBus bus, int node, String which) {
    for (int k = 1; k <= 6; k++) {
      CHECK.due("before bit time " + k + ", " + which, bus.state(node), Line.FLAG);
      bus.pass(1);
    }
    CHECK.due("behind six, " + which, bus.state(node), Line.AFTER);
  }
}
