/** The second paragraph of the terms: how a frame is laid out on the wire. */
@Section("Terms")
public final class FrameTest {
  private static final Check CHECK = new Check(FrameTest.class);

  public static void main(String[] args) {
    CHECK.run();
  }

  @Says("A FRAME has an ID 0 .. 2047 and 0, 1 or 2 BYTES.")
  static void theLeastAndTheGreatestAreSentAndHeard() {
    int[] most = {0, 255, 65535};
    for (int id : new int[] {0, 2047}) {
      for (int bytes = 0; bytes <= 2; bytes++) {
        for (int data : new int[] {0, most[bytes]}) {
          StrongBus bus = new StrongBus(2);
          bus.request(0, id, bytes, data);
          CHECK.due("sent: " + id + " " + bytes + " " + data, bus.pass(80), 1);
          CHECK.due("heard", bus.take(1), id + 2048 * bytes + 8192 * data);
        }
      }
    }
  }

  @Says("Its CORE is, one bit behind the other: bit 0, a 0 (the START);")
  static void beginsWithA0() {
    for (int id : new int[] {0, 1024, 2047}) {
      CHECK.due("the start of ID " + id, Line.sent(id, 0, 0).substring(0, 1), "0");
    }
  }

  @Says("bits 1 .. 11, the ID, the highest one first;")
  static void thenTheId() {
    for (int k = 0; k < 11; k++) {
      String core = Line.coreOf(Line.sent(1 << k, 0, 0), 0);
      CHECK.due("one 1 of the ID", core.substring(1, 12), "0".repeat(10 - k) + "1" + "0".repeat(k));
    }
    CHECK.due("ID 2047", Line.coreOf(Line.sent(2047, 0, 0), 0).substring(1, 12), "11111111111");
    CHECK.due("ID 1234", Line.coreOf(Line.sent(1234, 0, 0), 0).substring(1, 12), "10011010010");
  }

  @Says("12 .. 14, three 0;")
  static void thenThree0() {
    for (int id : new int[] {0, 2047}) {
      CHECK.due("of ID " + id, Line.coreOf(Line.sent(id, 2, 65535), 2).substring(12, 15), "000");
    }
  }

  @Says("15 .. 18, the number of bytes, and then the bytes, each likewise with the highest bit first;")
  static void thenTheBytes() {
    CHECK.due("no bytes", Line.coreOf(Line.sent(77, 0, 0), 0).substring(15, 19), "0000");
    CHECK.due("one byte", Line.coreOf(Line.sent(77, 1, 128), 1).substring(15, 27), "0001" + "10000000");
    CHECK.due("the other end", Line.coreOf(Line.sent(77, 1, 1), 1).substring(15, 27), "0001" + "00000001");
    CHECK.due("two bytes", Line.coreOf(Line.sent(77, 2, 0x0180), 2).substring(15, 35), "0010" + "10000000" + "00000001");
  }

  @Says({"and 15 bits CHECK, which make the core RIGHT:",
      "a register of 15 bits, 0 at first, goes over it: for each bit, if it is not the register's highest bit, the"
          + " register becomes twice itself (its lowest 15 bits) exclusive or 17817, else twice itself only; right is a"
          + " core that leaves 0."})
  static void thenTheCheck() {
    CHECK.due("ID 0", Line.coreOf(Line.sent(0, 0, 0), 0).substring(19), "000000000000000");
    CHECK.due("ID 1", Line.coreOf(Line.sent(1, 0, 0), 0).substring(19), "010001000010011");
    CHECK.due("ID 1024", Line.coreOf(Line.sent(1024, 0, 0), 0).substring(19), "010010110110001");
    CHECK.due("ID 2047", Line.coreOf(Line.sent(2047, 2, 65535), 2).substring(35), "011111110010000");
    for (int k = 0; k < 200; k++) {
      int bytes = k % 3;
      int data = k * 7919 % (1 << 8 * bytes);
      String core = Line.coreOf(Line.sent(k * 1009 % 2048, bytes, data), bytes);
      CHECK.holds(core + " is right", Line.isRight(core));
    }
  }

  @Says("Behind five equal bits of the core")
  static void aPadBehindFive() {
    CHECK.due("five 0", Line.sent(0, 0, 0).substring(0, 7), "0000010");
    CHECK.due("five 1", Line.sent(2047, 0, 0).substring(0, 8), "01111101");
    CHECK.due("four 0", Line.sent(128, 0, 0).substring(0, 6), "000010");
    CHECK.due("four 1", Line.sent(1920, 0, 0).substring(0, 7), "0111100");
  }

  @Says("(pads among them)")
  static void aPadCountsForTheNext() {
    CHECK.due("five 0, a pad and four 1", Line.sent(120, 0, 0).substring(0, 12), "00000" + "1" + "1111" + "0" + "0");
    CHECK.due("five 1, a pad and four 0", Line.sent(1984, 0, 0).substring(0, 12), "0" + "11111" + "0" + "0000" + "1");
    CHECK.due("five 0, a pad and three 1", Line.sent(112, 0, 0).substring(0, 11), "00000" + "1" + "111" + "0" + "0");
  }

  @Says({"there comes a PAD, the other level,", "also behind the last one."})
  static void aPadBehindTheLastBit() {
    for (int[] f : new int[][] {{9, 1}, {23, 0}}) {
      String core = Line.text(Line.core(f[0], 0, 0));
      CHECK.holds("ID " + f[0] + " ends with a pad", core.endsWith((1 - f[1] + "").repeat(5) + f[1]));
      StrongBus bus = new StrongBus(2);
      bus.request(0, f[0], 0, 0);
      CHECK.due("ID " + f[0], Line.passing(bus, core.length() + 10), core + "1" + "0" + "1" + "1111111");
      CHECK.due("it is sent", bus.total(1), 1);
      CHECK.due("it is heard", bus.take(1), f[0]);
    }
  }

  @Says("Behind the core: 1 (the END), the ANSWER, 1 (the GAP), and seven 1 (the TAIL).")
  static void behindTheCore() {
    int[][] frames = {{0, 0, 0}, {1, 0, 0}, {2047, 2, 65535}, {1365, 2, 43690}, {5, 1, 200}, {682, 1, 0}, {1024, 2, 256}};
    for (int[] f : frames) {
      String want = Line.frame(f[0], f[1], f[2]);
      StrongBus bus = new StrongBus(4);
      bus.request(3, f[0], f[1], f[2]);
      CHECK.due("up to the last but one of the tail", Line.passing(bus, want.length() - 1) + "1", want);
      CHECK.due("total(1)", bus.total(1), 0);
      bus.pass(1);
      CHECK.due("the last one", bus.level(0), 1);
      CHECK.due("total(1)", bus.total(1), 1);
    }
  }

  @Says("A sender drives 1 in the answer.")
  static void aSenderDoesNotAnswer() {
    StrongBus bus = new StrongBus(2);
    bus.request(0, 0, 0, 0);
    bus.request(1, 0, 0, 0);
    bus.pass(Line.ANSWER);
    CHECK.due("two send, none hears: the answer", bus.level(0), 1);
    CHECK.due("state(0)", bus.state(0), Line.FLAG);
    CHECK.due("state(1)", bus.state(1), Line.FLAG);
    StrongBus three = new StrongBus(3);
    three.request(0, 0, 0, 0);
    three.request(1, 0, 0, 0);
    three.pass(Line.ANSWER);
    CHECK.due("a third one hears: the answer", three.level(0), 0);
    CHECK.due("both are sent", three.pass(8), 2);
  }
}
