/** The paragraph of the terms on what a node drives. */
@Section("Terms")
public final class DriveTest {
  private static final Check CHECK = new Check(DriveTest.class);

  public static void main(String[] args) {
    CHECK.run();
  }

  @Says({"What it drives: an idle one for which a frame waits begins to send it", "it is sending, and drives the start."})
  static void anIdleOneBegins() {
    StrongBus bus = new StrongBus(2);
    bus.pass(3);
    bus.request(0, 2047, 0, 0);
    CHECK.due("before: state(0)", bus.state(0), Line.IDLE);
    bus.pass(1);
    CHECK.due("state(0)", bus.state(0), Line.SENDING);
    CHECK.due("level(0)", bus.level(0), 0);
  }

  @Says("What it drives: an idle one for which a frame waits begins to send it")
  static void onlyAnIdleOneBegins() {
    StrongBus bus = new StrongBus(2);
    bus.request(0, 0, 0, 0);
    bus.pass(1);
    bus.request(1, 0, 0, 0);
    CHECK.due("a hearing one goes on hearing, and begins behind the pause",
        Line.passing(bus, 49 + 3 + 1), Line.frame(0, 0, 0).substring(1) + "111" + "0");
    CHECK.due("state(1)", bus.state(1), Line.SENDING);
    CHECK.due("state(0)", bus.state(0), Line.HEARING);

    StrongBus pausing = new StrongBus(2);
    pausing.request(0, 0, 0, 0);
    pausing.pass(Line.TAIL_LAST);
    pausing.request(1, 0, 0, 0);
    CHECK.due("a pausing one waits for three 1", Line.passing(pausing, 4), "1110");
  }

  @Says("(of those that wait the one with the least ID,")
  static void theLeastIdFirst() {
    int[][] orders = {{300, 20, 1000, 21}, {20, 21, 300, 1000}, {1000, 300, 21, 20}, {21, 1000, 20, 300}};
    for (int[] ids : orders) {
      StrongBus bus = new StrongBus(2);
      for (int id : ids) {
        bus.request(0, id, 0, 0);
      }
      bus.pass(200);
      bus.pass(50);
      for (int id : new int[] {20, 21, 300, 1000}) {
        CHECK.due("heard", bus.take(1), id);
      }
    }
  }

  @Says("(of those that wait the one with the least ID,")
  static void aFrameOnItsWayIsNotPutOff() {
    StrongBus bus = new StrongBus(2);
    bus.request(0, 500, 0, 0);
    bus.pass(1);
    bus.request(0, 3, 0, 0);
    bus.pass(199);
    CHECK.due("the one that was on its way", bus.take(1), 500);
    CHECK.due("the one with the less ID", bus.take(1), 3);

    bus.request(0, 500, 0, 0);
    bus.pass(20);
    bus.request(0, 3, 0, 0);
    bus.disturb(0, 1);
    bus.pass(200);
    CHECK.due("after an error the least ID begins", bus.take(1), 3);
    CHECK.due("then the other", bus.take(1), 500);
  }

  @Says("of several the first one):")
  static void ofEqualIdsTheFirst() {
    StrongBus bus = new StrongBus(2);
    bus.request(0, 77, 1, 9);
    bus.request(0, 76, 1, 8);
    bus.request(0, 77, 1, 4);
    bus.request(0, 76, 1, 1);
    bus.pass(200);
    bus.pass(100);
    CHECK.due("first", bus.take(1), 76 + 2048 + 8192 * 8);
    CHECK.due("second", bus.take(1), 76 + 2048 + 8192);
    CHECK.due("third", bus.take(1), 77 + 2048 + 8192 * 9);
    CHECK.due("fourth", bus.take(1), 77 + 2048 + 8192 * 4);
  }

  @Says("of several the first one):")
  static void ofFourEqualIdsTheFirst() {
    StrongBus bus = new StrongBus(2);
    for (int data : new int[] {200, 3, 100, 50}) {
      bus.request(0, 0, 1, data);
    }
    bus.pass(200);
    bus.pass(100);
    for (int data : new int[] {200, 3, 100, 50}) {
      CHECK.due("heard", bus.take(1), 2048 + 8192 * data);
    }
  }

  @Says("Sending: the next bit.")
  static void sendingTheNextBit() {
    int[][] frames = {{1, 0, 0}, {2047, 2, 65535}, {1365, 2, 43690}, {0, 2, 0}, {120, 1, 15}};
    for (int[] f : frames) {
      CHECK.due("ID " + f[0], Line.sent(f[0], f[1], f[2]), Line.frame(f[0], f[1], f[2]));
    }
  }

  @Says("Hearing: 0 in the answer if the core was right, else 1.")
  static void hearingAnAnswer() {
    StrongBus right = new StrongBus(2);
    right.request(0, Line.LONG_ID, 2, Line.LONG_DATA);
    right.pass(Line.LONG_END);
    CHECK.due("the end", right.level(0), 1);
    right.pass(1);
    CHECK.due("the answer", right.level(0), 0);
    right.pass(1);
    CHECK.due("the gap", right.level(0), 1);

    StrongBus wrong = new StrongBus(2);
    wrong.request(0, Line.LONG_ID, 2, Line.LONG_DATA);
    wrong.disturb(1, 26);
    wrong.pass(Line.LONG_END + 1);
    CHECK.due("a core that is not right: the answer", wrong.level(0), 1);

    StrongBus three = new StrongBus(3);
    three.request(0, Line.LONG_ID, 2, Line.LONG_DATA);
    three.disturb(1, 26);
    three.pass(Line.LONG_END + 1);
    CHECK.due("another one answers", three.level(0), 0);
  }

  @Says("Hearing: 0 in the answer if the core was right, else 1.")
  static void oneWhoseIdLostAnswers() {
    StrongBus bus = new StrongBus(2);
    bus.request(0, 5, 0, 0);
    bus.request(1, 6, 0, 0);
    CHECK.due("the wire", Line.passing(bus, Line.frame(5, 0, 0).length()), Line.frame(5, 0, 0));
  }

  @Says("Hearing: 0 in the answer if the core was right, else 1.")
  static void oneThatTakesNothingAnswers() {
    StrongBus bus = new StrongBus(2);
    bus.filter(1, 2047, 9);
    bus.request(0, 0, 0, 0);
    bus.pass(Line.ANSWER);
    CHECK.due("the answer", bus.level(0), 0);
  }

  @Says("Flag: 0, but 1 if it is a passive one.")
  static void flags() {
    StrongBus bus = new StrongBus(2);
    bus.request(0, 0, 0, 0);
    bus.disturb(0, 1);
    // The start, six 0 of the sender; the other one errs in the fifth of them and ends six later; eight 1, pause.
    String flags = "0" + "000000" + "00000" + "11111111" + "111";
    CHECK.due("flags", Line.passing(bus, flags.length()), flags);
    CHECK.due("it is sent again", Line.passing(bus, Line.TAIL_LAST), Line.frame(0, 0, 0));
  }

  @Says("Flag: 0, but 1 if it is a passive one.")
  static void aPassiveFlagIsNotHeard() {
    StrongBus bus = Line.withErrors(17);
    bus.disturb(0, Line.ANSWER);
    CHECK.due("the frame is not broken", Line.passing(bus, Line.TAIL_LAST), Line.frame(0, 0, 0));
    CHECK.due("the other one heard it", bus.count(1, 3), 1);
    CHECK.due("the sender did not send it: count(0, 2)", bus.count(0, 2), 1);
    // Six bit times of flag and eight behind it, of which the frame had 8, three of pause, eight of suspension.
    String quiet = "1".repeat(6 + 8 - 8 + 3 + 8);
    CHECK.due("quiet", Line.passing(bus, quiet.length()), quiet);
    CHECK.due("again", Line.passing(bus, Line.TAIL_LAST), Line.frame(0, 0, 0));
    CHECK.due("heard twice", bus.count(1, 3), 2);
    CHECK.due("sent once", bus.total(1), 1);
  }

  @Says("All others: 1.")
  static void allOthersDrive1() {
    StrongBus idle = new StrongBus(4);
    CHECK.due("idle", Line.passing(idle, 64), "1".repeat(64));
    // After, pause and suspended, each with a frame that waits.
    StrongBus bus = Line.withErrors(17);
    bus.request(0, 1, 0, 0);
    bus.disturb(0, Line.TAIL_LAST);
    bus.pass(Line.TAIL_LAST + 6);
    CHECK.due("state(0)", bus.state(0), Line.AFTER);
    CHECK.due("after", Line.passing(bus, 8), "11111111");
    CHECK.due("state(0)", bus.state(0), Line.PAUSE);
    CHECK.due("pause", Line.passing(bus, 3), "111");
    CHECK.due("state(0)", bus.state(0), Line.SUSPENDED);
    CHECK.due("suspended", Line.passing(bus, 8), "11111111");
    bus.pass(1);
    CHECK.due("then the start", bus.level(0), 0);
  }

  @Says("All others: 1.")
  static void anOffOneDrives1() {
    StrongBus bus = Line.withErrors(32);
    CHECK.due("state(0)", bus.state(0), Line.OFF);
    // The other one's flag, eight 1 behind it and its pause.
    bus.pass(12 + 8 + 3);
    bus.request(1, 0, 0, 0);
    bus.pass(Line.ANSWER);
    CHECK.due("an off one does not answer", bus.level(0), 1);
    CHECK.due("state(1)", bus.state(1), Line.FLAG);
    CHECK.due("state(0)", bus.state(0), Line.OFF);
  }
}
