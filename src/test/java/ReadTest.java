/** The paragraph of the terms on what a sending or hearing node reads, and on the errors that it finds. */
@Section("Terms")
public final class ReadTest {
  private static final Check CHECK = new Check(ReadTest.class);
  private static final int NONE = 0;
  private static final int BIT = 2;
  private static final int PAD = 3;
  private static final int SHAPE = 4;
  private static final int IS_CHECK = 5;
  private static final int IS_ANSWER = 6;
  private static final int OVERLOAD = 7;

  public static void main(String[] args) {
    CHECK.run();
  }

  @Says("Sending and hearing, it reads by what it sees: core and pads, and what comes behind.")
  static void aNodeCanReadAnotherFrame() {
    // Seen wrong wherever the two frames differ, pads too, the one is the other.
    int[][] pairs = {{1365, 1367, 0}, {1, 3, 0}, {700, 1029, 1}};
    for (int[] pair : pairs) {
      String sent = Line.frame(pair[0], pair[2], 0);
      String seen = Line.frame(pair[1], pair[2], 0);
      CHECK.due("they are of the same length", sent.length(), seen.length());
      StrongBus bus = new StrongBus(3);
      bus.request(0, pair[0], pair[2], 0);
      for (int i = 0; i < sent.length(); i++) {
        if (sent.charAt(i) != seen.charAt(i)) {
          bus.disturb(1, i + 1);
        }
      }
      bus.pass(sent.length());
      CHECK.due("read by one", bus.take(1), pair[1] + 2048 * pair[2]);
      CHECK.due("read by the other", bus.take(2), pair[0] + 2048 * pair[2]);
    }
  }

  @Says("A sending one that drives 1 and sees 0 in bits 1 .. 11")
  static void theGreaterIdIsHearingFromThatBitOn() {
    for (int bit = 1; bit <= 11; bit++) {
      StrongBus bus = new StrongBus(2);
      bus.request(0, 1 << 11 - bit, 0, 0);
      bus.request(1, 0, 0, 0);
      // A pad stands behind bits 4 and 9.
      int bitTime = 1 + bit + bit / 5;
      bus.pass(bitTime - 1);
      CHECK.due("before bit " + bit + ": state(0)", bus.state(0), Line.SENDING);
      bus.pass(1);
      CHECK.due("at bit " + bit + ": state(0)", bus.state(0), Line.HEARING);
      CHECK.due("the other one: state(1)", bus.state(1), Line.SENDING);
      CHECK.due("its frame is sent", bus.pass(Line.TAIL_LAST - bitTime), 1);
      CHECK.due("no error: T", bus.count(0, 0), 0);
      CHECK.due("no error: R", bus.count(0, 1), 0);
      CHECK.due("its own waits: count(0, 2)", bus.count(0, 2), 1);
      CHECK.due("then it is sent", bus.pass(3 + 50), 1);
      CHECK.due("heard", bus.take(1), 1 << 11 - bit);
    }
  }

  @Says("is HEARING from then on (that bit is read).")
  static void theBitIsRead() {
    for (int bit = 1; bit <= 11; bit++) {
      StrongBus bus = new StrongBus(2);
      bus.request(0, 1 << 11 - bit, 0, 0);
      bus.request(1, 0, 0, 0);
      bus.pass(Line.TAIL_LAST);
      CHECK.due("the ID that was read", bus.take(0), 0);
    }
  }

  @Says("is HEARING from then on (that bit is read).")
  static void threeLoseOneBehindTheOther() {
    StrongBus bus = new StrongBus(4);
    bus.request(0, 7, 0, 0);
    bus.request(1, 5, 1, 255);
    bus.request(2, 2047, 0, 0);
    bus.request(3, 6, 0, 0);
    String first = Line.frame(5, 1, 255);
    CHECK.due("the wire has ID 5", Line.passing(bus, first.length()), first);
    bus.pass(200);
    for (int id : new int[] {5 + 2048 + 8192 * 255, 6, 7}) {
      CHECK.due("node 2 hears them in order", bus.take(2), id);
    }
    CHECK.due("all were sent", bus.total(1), 4);
    for (int which = BIT; which <= OVERLOAD; which++) {
      CHECK.due("total(" + which + ")", bus.total(which), 0);
    }
  }

  @Says("(no pad)")
  static void aPadIsNotLost() {
    for (int pad : new int[] {6, 12}) {
      CHECK.due("a pad among bits 1 .. 11", sendingErrorAt(0, 0, 0, pad), BIT);
    }
    CHECK.due("a pad behind bit 11", sendingErrorAt(32, 0, 0, 14), BIT);
    CHECK.due("a pad behind bit 1", sendingErrorAt(1023, 0, 0, 8), BIT);
  }

  @Says("ERRORS: BIT: a sending one sees another level than it drives, but for that and the answer.")
  static void bitEverywhereElse() {
    String frame = Line.frame(Line.LONG_ID, 2, Line.LONG_DATA);
    for (int k = 1; k <= frame.length(); k++) {
      boolean lost = k >= 2 && k <= 12 && frame.charAt(k - 1) == '1';
      int want = lost ? NONE : k == Line.LONG_END + 1 ? IS_ANSWER : BIT;
      CHECK.due("bit time " + k, sendingErrorAt(Line.LONG_ID, 2, Line.LONG_DATA, k), want);
    }
  }

  @Says("ERRORS: BIT: a sending one sees another level than it drives, but for that and the answer.")
  static void equalIdsWithOtherBytesErr() {
    StrongBus bus = new StrongBus(3);
    bus.request(0, 1365, 2, 0);
    bus.request(1, 1365, 1, 0);
    // Bits 0 .. 16, the pad behind bits 12 .. 16, and bit 17: of 0010 and 0001 the first drives 1 there.
    bus.pass(18);
    CHECK.due("total(2)", bus.total(2), 0);
    bus.pass(1);
    CHECK.due("total(2)", bus.total(2), 1);
    CHECK.due("state(0)", bus.state(0), Line.FLAG);
    CHECK.due("state(1)", bus.state(1), Line.SENDING);
  }

  @Says("ANSWER: it sees 1 in the answer.")
  static void answer() {
    StrongBus seen = new StrongBus(2);
    seen.request(0, 0, 0, 0);
    seen.pass(Line.ANSWER);
    CHECK.due("it sees 0: state(0)", seen.state(0), Line.SENDING);
    CHECK.due("total(6)", seen.total(6), 0);
    CHECK.due("it sees 1", sendingErrorAt(0, 0, 0, Line.ANSWER), IS_ANSWER);

    StrongBus none = new StrongBus(2);
    none.request(0, Line.LONG_ID, 2, Line.LONG_DATA);
    none.disturb(1, 26);
    none.disturb(0, Line.LONG_END + 1);
    none.pass(Line.LONG_END + 1);
    CHECK.due("none answers", none.level(0), 1);
    CHECK.due("but it sees 0: state(0)", none.state(0), Line.SENDING);
    CHECK.due("total(6)", none.total(6), 0);
  }

  @Says("A hearing one: PAD: where a pad must be there is none;")
  static void pad() {
    for (int k = 6; k <= 36; k += 6) {
      CHECK.due("a pad behind five 0, bit time " + k, hearingErrorAt(0, 0, 0, k), PAD);
    }
    CHECK.due("a pad behind five 1", hearingErrorAt(2047, 0, 0, 7), PAD);
    CHECK.due("a pad behind four 1 and a pad", hearingErrorAt(120, 0, 0, 11), PAD);
    CHECK.due("a pad behind the last bit, five 0", hearingErrorAt(9, 0, 0, Line.core(9, 0, 0).length), PAD);
    CHECK.due("a pad behind the last bit, five 1", hearingErrorAt(23, 0, 0, Line.core(23, 0, 0).length), PAD);
  }

  @Says("A hearing one: PAD: where a pad must be there is none;")
  static void noPadBehindFour() {
    StrongBus bus = new StrongBus(2);
    // A 1 in the fifth bit: no pad is due, and the wire's own one is read as a bit.
    bus.request(0, 0, 0, 0);
    bus.disturb(1, 5);
    bus.pass(6);
    CHECK.due("state(1)", bus.state(1), Line.HEARING);
    CHECK.due("total(3)", bus.total(3), 0);
  }

  @Says("SHAPE: one of bits 12 .. 14 is 1,")
  static void threeZeros() {
    CHECK.due("bit 11", hearingErrorAt(Line.LONG_ID, 2, Line.LONG_DATA, 12), NONE);
    CHECK.due("bit 12", hearingErrorAt(Line.LONG_ID, 2, Line.LONG_DATA, 13), SHAPE);
    CHECK.due("bit 13", hearingErrorAt(Line.LONG_ID, 2, Line.LONG_DATA, 14), SHAPE);
    CHECK.due("bit 14", hearingErrorAt(Line.LONG_ID, 2, Line.LONG_DATA, 15), SHAPE);
    CHECK.due("bit 15", hearingErrorAt(Line.LONG_ID, 2, Line.LONG_DATA, 16), NONE);
  }

  @Says("SHAPE: one of bits 12 .. 14 is 1,")
  static void aPadBetweenThemIsNone() {
    // Bits 8 .. 12 are 0, and a pad is behind them; bits 13 and 14 follow.
    String frame = Line.frame(1360, 0, 0);
    CHECK.due("the frame", frame.substring(0, 17), "0" + "10101010000" + "0" + "1" + "00" + "0");
    CHECK.due("bit 12", hearingErrorAt(1360, 0, 0, 13), SHAPE);
    CHECK.due("the pad", hearingErrorAt(1360, 0, 0, 14), PAD);
    CHECK.due("bit 13", hearingErrorAt(1360, 0, 0, 15), SHAPE);
    CHECK.due("bit 14", hearingErrorAt(1360, 0, 0, 16), SHAPE);
    CHECK.due("bit 15", hearingErrorAt(1360, 0, 0, 17), NONE);
  }

  @Says("the number of bytes is above 2 (at bit 18),")
  static void tooManyBytes() {
    // Of ID 1365 without bytes bits 15 and 16 are in 16 and 17, a pad in 18, bits 17 and 18 in 19 and 20.
    CHECK.due("0000", numberOfBytesErrsAt(), 0);
    CHECK.due("0001", numberOfBytesErrsAt(20), 0);
    CHECK.due("0010", numberOfBytesErrsAt(19), 0);
    CHECK.due("0011", numberOfBytesErrsAt(19, 20), 20);
    // With a 1 in bits 15 or 16 no pad is due in 18, and bits 17 and 18 are in 18 and 19.
    CHECK.due("0100", numberOfBytesErrsAt(17, 18), 19);
    CHECK.due("0110", numberOfBytesErrsAt(17), 19);
    CHECK.due("1000", numberOfBytesErrsAt(16, 18), 19);
    CHECK.due("1010", numberOfBytesErrsAt(16), 19);
    CHECK.due("1111", numberOfBytesErrsAt(16, 17, 19), 19);
  }

  @Says("the end or one of the first six of the tail is 0;")
  static void theEndAndTheTail() {
    CHECK.due("the last bit of the core", hearingErrorAt(0, 0, 0, Line.END - 1), NONE);
    CHECK.due("the end", hearingErrorAt(0, 0, 0, Line.END), SHAPE);
    CHECK.due("the answer", hearingErrorAt(0, 0, 0, Line.ANSWER), NONE);
    for (int k = 1; k <= 6; k++) {
      CHECK.due("number " + k + " of the tail", hearingErrorAt(0, 0, 0, Line.GAP + k), SHAPE);
    }
    CHECK.due("number 7 of the tail", hearingErrorAt(0, 0, 0, Line.TAIL_LAST), OVERLOAD);
  }

  @Says("CHECK: in the gap, the core was not right;")
  static void aCoreThatIsNotRight() {
    // One bit each of the ID, the bytes and the check.
    for (int k : new int[] {2, 11, 21, 26, 36, 37, Line.LONG_END - 1}) {
      StrongBus bus = new StrongBus(3);
      bus.request(0, Line.LONG_ID, 2, Line.LONG_DATA);
      bus.disturb(1, k);
      bus.pass(Line.LONG_END + 1);
      CHECK.due("bit time " + k + ", before the gap", errorOf(bus, 1), NONE);
      bus.pass(1);
      CHECK.due("bit time " + k + ", in the gap", errorOf(bus, 1), IS_CHECK);
    }
  }

  @Says("else SHAPE, if the gap is 0.")
  static void theGap() {
    CHECK.due("the gap", hearingErrorAt(0, 0, 0, Line.GAP), SHAPE);
    StrongBus both = new StrongBus(3);
    both.request(0, Line.LONG_ID, 2, Line.LONG_DATA);
    both.disturb(1, 26);
    both.disturb(1, Line.LONG_END + 2);
    both.pass(Line.LONG_END + 2);
    CHECK.due("CHECK comes before SHAPE", errorOf(both, 1), IS_CHECK);
  }

  /** What node 0, that sends, makes of a bit that it alone sees wrong: the number of a total. */
  private static int sendingErrorAt(int id, int bytes, int data, int bitTime) {
    return errorAt(0, id, bytes, data, bitTime);
  }

  /** What node 1, that hears, makes of a bit that it alone sees wrong: the number of a total. */
  private static int hearingErrorAt(int id, int bytes, int data, int bitTime) {
    return errorAt(1, id, bytes, data, bitTime);
  }

  private static int errorAt(int node, int id, int bytes, int data, int bitTime) {
    StrongBus bus = new StrongBus(3);
    bus.request(0, id, bytes, data);
    bus.disturb(node, bitTime);
    if (bitTime > 1) {
      bus.pass(bitTime - 1);
      CHECK.due("before bit time " + bitTime, errorOf(bus, node), NONE);
    }
    bus.pass(1);
    return errorOf(bus, node);
  }

  private static int errorOf(StrongBus bus, int node) {
    int error = NONE;
    int all = 0;
    for (int which = BIT; which <= OVERLOAD; which++) {
      all += bus.total(which);
      error = bus.total(which) > 0 ? which : error;
    }
    boolean flags = bus.state(node) == Line.FLAG;
    return all == (flags ? 1 : 0) ? error : -1;
  }

  /** In which bit time a hearing node finds SHAPE that sees these bit times of a frame without bytes wrong, or 0. */
  private static int numberOfBytesErrsAt(int... wrong) {
    StrongBus bus = new StrongBus(3);
    bus.request(0, 1365, 0, 0);
    for (int k : wrong) {
      bus.disturb(1, k);
    }
    for (int k = 1; k <= 21; k++) {
      bus.pass(1);
      if (bus.state(1) == Line.FLAG) {
        CHECK.due("total(4)", bus.total(4), 1);
        return k;
      }
    }
    return 0;
  }
}
