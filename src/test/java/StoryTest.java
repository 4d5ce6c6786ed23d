/** The document's first sentence, clause by clause; the terms' own tests go into its edges. */
@Section("What it is")
public final class StoryTest {
  private static final Check CHECK = new Check(StoryTest.class);

  public static void main(String[] args) {
    CHECK.run();
  }

  @Says({"Nodes on one wire, bit time by bit time:", "frames are sent bit by bit with pads and a check,"})
  static void aFrameBitByBit() {
    StrongBus bus = new StrongBus(4);
    bus.request(2, 85, 1, 200);
    String frame = Line.frame(85, 1, 200);
    for (int i = 0; i < frame.length(); i++) {
      CHECK.due("pass(1)", bus.pass(1), i == frame.length() - 1 ? 1 : 0);
      CHECK.due("total(0)", bus.total(0), i + 1);
      CHECK.due("bit time " + (i + 1), bus.level(0), frame.charAt(i) - '0');
    }
    for (int node = 0; node < 4; node++) {
      CHECK.due("heard by " + node, bus.count(node, 3), node == 2 ? 0 : 1);
    }
  }

  @Says("several that begin at once find out whose comes first,")
  static void theLeastIdFirst() {
    int[] ids = {1024, 7, 2047, 6};
    int[] inOrder = {6, 7, 1024, 2047};
    StrongBus bus = new StrongBus(4);
    for (int node = 0; node < 4; node++) {
      bus.request(node, ids[node], 0, 0);
    }
    String wire = "";
    for (int id : inOrder) {
      wire += Line.frame(id, 0, 0) + "111";
    }
    CHECK.due("the wire", Line.passing(bus, wire.length()), wire);
    CHECK.due("total(1)", bus.total(1), 4);
    for (int node = 0; node < 4; node++) {
      for (int id : inOrder) {
        if (id != ids[node]) {
          CHECK.due("take(" + node + ")", bus.take(node), id);
        }
      }
    }
    for (int error = 2; error <= 7; error++) {
      CHECK.due("total(" + error + ")", bus.total(error), 0);
    }
  }

  @Says("all answer,")
  static void eachOneAnswers() {
    for (int sender = 0; sender < 4; sender++) {
      for (int only = 0; only < 4; only++) {
        StrongBus bus = new StrongBus(4);
        bus.request(sender, Line.LONG_ID, 2, Line.LONG_DATA);
        for (int node = 0; node < 4; node++) {
          // One that reads a wrong bit does not answer, so that the answer on the wire is the only other one's.
          if (node != sender && node != only) {
            bus.disturb(node, 26);
          }
        }
        bus.pass(Line.LONG_END + 1);
        CHECK.due("of " + sender + " to " + only + ": the answer", bus.level(0), only == sender ? 1 : 0);
      }
    }
  }

  @Says("errors are flagged to all,")
  static void aFlagReachesAll() {
    for (int node = 0; node < 4; node++) {
      StrongBus bus = new StrongBus(4);
      bus.request(0, 0, 0, 0);
      bus.disturb(node, Line.END);
      bus.pass(Line.END);
      for (int other = 0; other < 4; other++) {
        CHECK.due("the end, seen wrong by " + node + ": state(" + other + ")", bus.state(other),
            other == node ? Line.FLAG : other == 0 ? Line.SENDING : Line.HEARING);
      }
      bus.pass(2);
      for (int other = 0; other < 4; other++) {
        CHECK.due("two bit times later: state(" + other + ")", bus.state(other), Line.FLAG);
      }
      CHECK.due("sent again behind it", bus.pass(100), 1);
      CHECK.due("heard once", bus.count(3, 3), 1);
    }
  }

  @Says("and each node that errs too often is heard less and less, and then goes off.")
  static void lessAndLess() {
    for (int node = 0; node < 2; node++) {
      StrongBus bus = new StrongBus(2);
      bus.request(node, 0, 0, 0);
      CHECK.due("at first its flag is heard", wireOfAnError(bus, node, 23), "0" + "00000000000" + "11111111" + "111");
      CHECK.due("and it begins at once", wireOfAnError(bus, node, 1), "0");
      bus.pass(22);
      Line.errAtStart(bus, node, 13);
      CHECK.due("T", bus.count(node, 0), 120);
      // The other one takes six 1 behind the start for an error, and flags that.
      CHECK.due("passive: its flag is not, and eight 1 more come behind the pause", wireOfAnError(bus, node, 32),
          "0" + "111111" + "000000" + "11111111" + "111" + "11111111");
      CHECK.due("T", bus.count(node, 0), 128);
      Line.errAtStart(bus, node, 15);
      CHECK.due("T", bus.count(node, 0), 248);
      CHECK.due("not off yet: state", bus.state(node), Line.IDLE);
      wireOfAnError(bus, node, 1);
      CHECK.due("state", bus.state(node), Line.OFF);
      CHECK.due("off: only the other one's flag", Line.passing(bus, 60), "111111" + "000000" + "1".repeat(48));
    }
  }

  private static String wireOfAnError(StrongBus bus, int node, int bitTimes) {
    bus.disturb(node, 1);
    return Line.passing(bus, bitTimes);
  }
}
