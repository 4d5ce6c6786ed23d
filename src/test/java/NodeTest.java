/** The paragraph of the terms on what a node has. */
@Section("Terms")
public final class NodeTest {
  private static final Check CHECK = new Check(NodeTest.class);

  public static void main(String[] args) {
    CHECK.run();
  }

  @Says("A NODE has counters T and R, at first 0;")
  static void bothCountersAre0AtFirst() {
    StrongBus bus = new StrongBus(4);
    for (int node = 0; node < 4; node++) {
      CHECK.due("T", bus.count(node, 0), 0);
      CHECK.due("R", bus.count(node, 1), 0);
    }
  }

  @Says("it is PASSIVE if one of them is above 127.")
  static void t127IsNotPassive() {
    StrongBus bus = Line.withErrorsAndAFrame(16);
    CHECK.due("T", bus.count(0, 0), 127);
    bus.request(0, 0, 0, 0);
    bus.disturb(0, Line.ANSWER);
    bus.pass(Line.ANSWER);
    CHECK.due("ANSWER is counted: T", bus.count(0, 0), 135);
  }

  @Says("it is PASSIVE if one of them is above 127.")
  static void t128IsPassive() {
    StrongBus bus = Line.withErrors(16);
    CHECK.due("T", bus.count(0, 0), 128);
    CHECK.due("R", bus.count(0, 1), 0);
    bus.disturb(0, Line.ANSWER);
    bus.pass(Line.ANSWER);
    CHECK.due("ANSWER is not counted: T", bus.count(0, 0), 128);
    bus.pass(1);
    CHECK.due("its flag", bus.level(0), 1);
  }

  @Says("it is PASSIVE if one of them is above 127.")
  static void r127IsNotPassive() {
    StrongBus bus = Line.withR127();
    CHECK.due("R", bus.count(1, 1), 127);
    bus.request(1, 0, 0, 0);
    bus.disturb(1, Line.ANSWER);
    bus.pass(Line.ANSWER);
    CHECK.due("ANSWER is counted: T", bus.count(1, 0), 8);
    bus.pass(1);
    CHECK.due("its flag", bus.level(0), 0);
  }

  @Says("it is PASSIVE if one of them is above 127.")
  static void r128IsPassive() {
    StrongBus bus = Line.withR128();
    CHECK.due("R", bus.count(1, 1), 128);
    CHECK.due("T", bus.count(1, 0), 0);
    bus.request(1, 0, 0, 0);
    bus.disturb(1, Line.ANSWER);
    bus.pass(Line.ANSWER);
    CHECK.due("ANSWER is not counted: T", bus.count(1, 0), 0);
    bus.pass(1);
    CHECK.due("its flag", bus.level(0), 1);
    CHECK.due("state(1)", bus.state(1), Line.FLAG);
  }

  @Says("It has at most 4 frames that WAIT to be sent,")
  static void fourWaitAndAllAreSent() {
    StrongBus bus = new StrongBus(2);
    for (int id = 1; id <= 4; id++) {
      CHECK.due("request", bus.request(0, id, 0, 0), id);
    }
    CHECK.badState("a fifth request", () -> bus.request(0, 5, 0, 0));
    CHECK.due("all four are sent", bus.pass(200) + bus.pass(50), 4);
    for (int id = 1; id <= 4; id++) {
      CHECK.due("heard", bus.take(1), id);
    }
  }

  @Says("an INBOX for 4 frames,")
  static void fourComeIntoTheInbox() {
    StrongBus bus = new StrongBus(2);
    for (int id = 1; id <= 5; id++) {
      bus.request(0, id, 0, 0);
      bus.pass(60);
      CHECK.due("count(1, 3) behind ID " + id, bus.count(1, 3), Math.min(id, 4));
      CHECK.due("count(1, 4) behind ID " + id, bus.count(1, 4), id == 5 ? 1 : 0);
    }
    for (int id = 1; id <= 4; id++) {
      CHECK.due("the first four are there", bus.take(1), id);
    }
  }

  @Says("a mask and a value: it takes frames whose ID, of the bits of the mask, is the value")
  static void eachBitOfTheMaskIsLookedAt() {
    for (int k = 0; k < 11; k++) {
      StrongBus bus = new StrongBus(4);
      bus.filter(1, 2047, 1365);
      bus.filter(2, 2047 ^ 1 << k, 1365 & ~(1 << k));
      bus.filter(3, 1 << k, 1365 & 1 << k);
      bus.request(0, 1365 ^ 1 << k, 0, 0);
      bus.pass(60);
      CHECK.due("bit " + k + " is another one, and in the mask", bus.count(1, 3), 0);
      CHECK.due("bit " + k + " is another one, and not in the mask", bus.count(2, 3), 1);
      CHECK.due("bit " + k + " is another one, and alone in the mask", bus.count(3, 3), 0);
      bus.request(0, 1365, 0, 0);
      bus.pass(60);
      CHECK.due("the same ID", bus.count(1, 3), 1);
      CHECK.due("the same ID", bus.count(2, 3), 2);
      CHECK.due("the same ID", bus.count(3, 3), 1);
    }
  }

  @Says("(at first both are 0).")
  static void takesAllAtFirst() {
    for (int id : new int[] {0, 1, 1024, 2047}) {
      StrongBus bus = new StrongBus(4);
      bus.request(2, id, 0, 0);
      bus.pass(60);
      for (int node : new int[] {0, 1, 3}) {
        CHECK.due("ID " + id + " at node " + node, bus.take(node), id);
      }
    }
  }

  @Says("STATES: 0 IDLE (at first), 1 SENDING, 2 HEARING, 3 FLAG, 4 AFTER, 5 PAUSE, 6 SUSPENDED, 7 OFF.")
  static void eachStateHasItsNumber() {
    StrongBus bus = new StrongBus(2);
    CHECK.due("IDLE", bus.state(0), 0);
    bus.request(0, 0, 0, 0);
    bus.pass(1);
    CHECK.due("SENDING", bus.state(0), 1);
    CHECK.due("HEARING", bus.state(1), 2);
    bus.disturb(1, 5);
    bus.pass(5);
    CHECK.due("FLAG", bus.state(1), 3);
    bus.pass(6);
    CHECK.due("AFTER", bus.state(1), 4);
    bus.pass(6 + 8);
    CHECK.due("PAUSE", bus.state(1), 5);

    StrongBus passive = Line.withErrors(17);
    passive.pass(Line.WITH_PAUSE);
    CHECK.due("SUSPENDED", passive.state(0), 6);
    StrongBus off = Line.withErrors(32);
    CHECK.due("OFF", off.state(0), 7);
  }
}
