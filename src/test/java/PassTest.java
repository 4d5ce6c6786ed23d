/** Promise 5: what is on the wire bit time by bit time, and how many frames were sent. */
public final class PassTest {
  private static final Check CHECK = new Check("promise 5, pass");

  public static void main(String[] args) {
    refuses();
    countsTheFramesOfThisCall();
    sendsTheFrameThatTheDocumentLaysOut();
    padsBehindTheLastBitOfTheCore();
    theLeastIdWins();
    theLoserHearsAndSendsThen();
    equalFramesAreBothSent();
    equalIdsWithOtherBytesErr();
    aPadIsNotLost();
    nobodyAnswersAWrongCore();
    flagsAndSendsAgain();
    aPassiveFlagIsNotHeard();
    beginsBehindThePause();
    CHECK.end();
  }

  private static void refuses() {
    StrongBus bus = new StrongBus(2);
    for (int n : new int[] {0, -1, 201, Integer.MAX_VALUE, Integer.MIN_VALUE}) {
      CHECK.badArgument("pass(" + n + ")", () -> bus.pass(n));
    }
    CHECK.due("total(0) after refused ones", bus.total(0), 0);
    CHECK.due("pass(1)", bus.pass(1), 0);
    CHECK.due("pass(200)", bus.pass(200), 0);
    CHECK.due("total(0)", bus.total(0), 201);
  }

  private static void countsTheFramesOfThisCall() {
    StrongBus bus = new StrongBus(2);
    for (int i = 0; i < 4; i++) {
      bus.request(0, 0, 0, 0);
    }
    // A frame of ID 0 without bytes takes 50 bit times, and a pause 3 more.
    CHECK.due("pass(49)", bus.pass(49), 0);
    CHECK.due("pass(1)", bus.pass(1), 1);
    CHECK.due("pass(52)", bus.pass(52), 0);
    CHECK.due("pass(54)", bus.pass(54), 2);
    CHECK.due("pass(52)", bus.pass(52), 0);
    CHECK.due("pass(1)", bus.pass(1), 1);
    CHECK.due("pass(200)", bus.pass(200), 0);
    CHECK.due("total(1)", bus.total(1), 4);
    CHECK.due("count(0, 2)", bus.count(0, 2), 0);
  }

  private static void sendsTheFrameThatTheDocumentLaysOut() {
    String zeros = "000001".repeat(6) + "0000" + "1" + "0" + "1" + "1111111";
    StrongBus plain = new StrongBus(2);
    plain.request(0, 0, 0, 0);
    CHECK.holds("ID 0 without bytes", Line.passing(plain, zeros.length()).equals(zeros));
    int[][] frames = {{1, 0, 0}, {2047, 2, 65535}, {1365, 2, 43690}, {5, 1, 200}, {682, 1, 0}, {1024, 2, 256}};
    for (int[] f : frames) {
      String want = Line.text(Line.frame(f[0], f[1], f[2]));
      StrongBus bus = new StrongBus(4);
      bus.request(3, f[0], f[1], f[2]);
      String got = Line.passing(bus, want.length());
      CHECK.holds("ID " + f[0] + ": " + got + " is " + want, got.equals(want));
      CHECK.due("sent with the last bit of the tail: total(1)", bus.total(1), 1);
    }
  }

  private static void padsBehindTheLastBitOfTheCore() {
    for (int id : new int[] {9, 23}) {
      int[] core = Line.core(id, 0, 0);
      int last = core[core.length - 1];
      for (int i = 2; i <= 6; i++) {
        CHECK.due("ID " + id + " ends with a pad", core[core.length - i], 1 - last);
      }
      String want = Line.text(Line.frame(id, 0, 0));
      StrongBus bus = new StrongBus(2);
      bus.request(0, id, 0, 0);
      CHECK.holds("ID " + id, Line.passing(bus, want.length()).equals(want));
      CHECK.due("it is sent", bus.total(1), 1);
      CHECK.due("it is heard", bus.take(1), id);

      StrongBus disturbed = new StrongBus(2);
      disturbed.request(0, id, 0, 0);
      disturbed.disturb(1, core.length);
      disturbed.pass(core.length);
      CHECK.due("a hearing one asks for that pad: total(3)", disturbed.total(3), 1);
    }
  }

  private static void theLeastIdWins() {
    int[] first = Line.frame(5, 1, 255);
    StrongBus bus = new StrongBus(4);
    bus.request(0, 7, 0, 0);
    bus.request(1, 5, 1, 255);
    bus.request(2, 2047, 0, 0);
    bus.request(3, 6, 0, 0);
    CHECK.holds("the wire has ID 5", Line.passing(bus, first.length).equals(Line.text(first)));
    CHECK.due("no error: total(2)", bus.total(2), 0);
    CHECK.due("count(1, 2)", bus.count(1, 2), 0);
    bus.pass(200);
    for (int id : new int[] {5 + 2048 + 8192 * 255, 6, 7}) {
      CHECK.due("node 2 hears them in order", bus.take(2), id);
    }
    CHECK.due("count(2, 2)", bus.count(2, 2), 0);
    CHECK.due("all were sent", bus.total(1), 4);
  }

  private static void theLoserHearsAndSendsThen() {
    StrongBus bus = new StrongBus(2);
    bus.request(0, 1364, 0, 0);
    bus.request(1, 1365, 0, 0);
    bus.pass(11);
    CHECK.due("up to bit 10 both send: state(1)", bus.state(1), Line.SENDING);
    bus.pass(1);
    CHECK.due("at bit 11 it is hearing: state(1)", bus.state(1), Line.HEARING);
    CHECK.due("the winner sends: state(0)", bus.state(0), Line.SENDING);
    bus.pass(188);
    CHECK.due("total(1)", bus.total(1), 2);
    CHECK.due("the loser heard the winner", bus.take(1), 1364);
    CHECK.due("the winner heard the loser", bus.take(0), 1365);
    CHECK.due("T of the loser", bus.count(1, 0), 0);
  }

  private static void equalFramesAreBothSent() {
    StrongBus three = new StrongBus(3);
    three.request(0, 0, 0, 0);
    three.request(1, 0, 0, 0);
    CHECK.due("both are sent with one answer", three.pass(50), 2);
    CHECK.due("one is heard", three.count(2, 3), 1);
    StrongBus two = new StrongBus(2);
    two.request(0, 0, 0, 0);
    two.request(1, 0, 0, 0);
    CHECK.due("none answers", two.pass(42), 0);
    CHECK.due("state(0)", two.state(0), Line.FLAG);
    CHECK.due("state(1)", two.state(1), Line.FLAG);
    CHECK.due("total(6)", two.total(6), 2);
  }

  private static void equalIdsWithOtherBytesErr() {
    StrongBus bus = new StrongBus(3);
    bus.request(0, 1365, 2, 0);
    bus.request(1, 1365, 1, 0);
    // Bits 0 .. 16, the pad behind bits 12 .. 16, and bit 17: of 0010 and 0001 the first drives 1 there.
    bus.pass(18);
    CHECK.due("total(2)", bus.total(2), 0);
    bus.pass(1);
    CHECK.due("total(2)", bus.total(2), 1);
    CHECK.due("state(0)", bus.state(0), Line.FLAG);
    CHECK.due("count(0, 0)", bus.count(0, 0), 8);
  }

  private static void aPadIsNotLost() {
    StrongBus bus = new StrongBus(2);
    bus.request(0, 0, 0, 0);
    bus.disturb(0, 6);
    bus.pass(6);
    CHECK.due("a pad among bits 1 .. 11 seen as 0: state(0)", bus.state(0), Line.FLAG);
    CHECK.due("total(2)", bus.total(2), 1);
    StrongBus other = new StrongBus(2);
    other.request(0, 0, 0, 0);
    other.disturb(0, 3);
    other.pass(3);
    CHECK.due("a 0 among bits 1 .. 11 seen as 1: state(0)", other.state(0), Line.FLAG);
    StrongBus third = new StrongBus(2);
    third.request(0, 1365, 0, 0);
    third.disturb(0, 2);
    third.pass(2);
    CHECK.due("bit 1, a 1 seen as 0: state(0)", third.state(0), Line.HEARING);
    CHECK.due("no error: total(2)", third.total(2), 0);
  }

  private static void nobodyAnswersAWrongCore() {
    int end = Line.core(1365, 2, 43690).length + 1;
    StrongBus bus = new StrongBus(2);
    bus.request(0, 1365, 2, 43690);
    bus.disturb(1, 26);
    bus.pass(end + 1);
    CHECK.due("the answer", bus.level(0), 1);
    CHECK.due("state(0)", bus.state(0), Line.FLAG);
    CHECK.due("state(1)", bus.state(1), Line.HEARING);
    bus.pass(1);
    CHECK.due("the sender flags in the gap", bus.level(0), 0);
    CHECK.due("state(1)", bus.state(1), Line.FLAG);
    StrongBus three = new StrongBus(3);
    three.request(0, 1365, 2, 43690);
    three.disturb(1, 26);
    three.pass(end + 1);
    CHECK.due("another one answers", three.level(0), 0);
    three.pass(2);
    CHECK.due("the one with the wrong core flags in the tail", three.level(0), 0);
    CHECK.due("the sender errs: count(0, 0)", three.count(0, 0), 8);
    CHECK.due("the third one errs: count(2, 1)", three.count(2, 1), 1);
  }

  private static void flagsAndSendsAgain() {
    StrongBus bus = new StrongBus(2);
    bus.request(0, 0, 0, 0);
    bus.disturb(0, 1);
    // The start, six 0 of the sender; the other one errs in the fifth of them and ends six later; eight 1, pause.
    String flags = "0" + "000000" + "00000" + "11111111" + "111";
    CHECK.holds("flags", Line.passing(bus, flags.length()).equals(flags));
    String again = Line.text(Line.frame(0, 0, 0));
    CHECK.holds("it is sent again", Line.passing(bus, again.length()).equals(again));
    CHECK.due("T", bus.count(0, 0), 7);
    CHECK.due("R", bus.count(1, 1), 0);
    CHECK.due("it is heard", bus.take(1), 0);
  }

  private static void aPassiveFlagIsNotHeard() {
    StrongBus bus = Line.withErrors(17);
    bus.disturb(0, 42);
    String frame = Line.text(Line.frame(0, 0, 0));
    CHECK.holds("the frame is not broken", Line.passing(bus, frame.length()).equals(frame));
    CHECK.due("the other one heard it", bus.count(1, 3), 1);
    CHECK.due("the sender did not send it: count(0, 2)", bus.count(0, 2), 1);
    // Six bit times of flag, of which the frame had 8, eight behind it, three of pause, eight of suspension.
    String quiet = "1".repeat(6 + 8 + 3 + 8 - 8);
    CHECK.holds("quiet", Line.passing(bus, quiet.length()).equals(quiet));
    CHECK.holds("again", Line.passing(bus, frame.length()).equals(frame));
    CHECK.due("heard twice", bus.count(1, 3), 2);
    CHECK.due("sent once", bus.total(1), 1);
  }

  private static void beginsBehindThePause() {
    StrongBus bus = new StrongBus(2);
    bus.request(0, 0, 0, 0);
    bus.pass(50);
    bus.request(1, 0, 0, 0);
    CHECK.holds("three 1, then the start", Line.passing(bus, 4).equals("1110"));
    CHECK.due("state(1)", bus.state(1), Line.SENDING);
    CHECK.due("state(0)", bus.state(0), Line.HEARING);
  }
}
