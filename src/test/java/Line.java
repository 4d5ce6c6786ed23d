/** Frames as the document's terms lay them out, and ways to bring a bus where a test wants it. */
final class Line {
  static final int IDLE = 0;
  static final int SENDING = 1;
  static final int HEARING = 2;
  static final int FLAG = 3;
  static final int AFTER = 4;
  static final int PAUSE = 5;
  static final int SUSPENDED = 6;
  static final int OFF = 7;

  // The bit times of a plain frame, of ID 0 without bytes: a core of 34 bits and 6 pads, and 10 behind it.
  static final int END = 41;
  static final int ANSWER = 42;
  static final int GAP = 43;
  static final int TAIL = 44;
  static final int TAIL_LAST = 50;
  static final int WITH_PAUSE = 53;

  // A long frame whose bits change often, so that one of them that is seen wrong seldom moves a pad.
  static final int LONG_ID = 1365;
  static final int LONG_DATA = 43690;
  static final int LONG_END = core(LONG_ID, 2, LONG_DATA).length + 1;

  private static final int KEPT = 64;
  // Its flag, what is left of the other one's, eight 1 and a pause; a passive one is suspended, too.
  private static final int ACTIVE_ROUND = 6 + 5 + 8 + 3;
  private static final int PASSIVE_ROUND = 6 + 6 + 8 + 3 + 8;

  private Line() {
  }

  /** The padded core. The check is searched for, not reckoned, so that it rests on the definition of RIGHT alone. */
  static int[] core(int id, int bytes, int data) {
    String head = "0" + binary(id, 11) + "000" + binary(bytes, 4);
    for (int i = 0; i < bytes; i++) {
      head += binary(data >> 8 * i & 255, 8);
    }
    for (int check = 0; check < 32768; check++) {
      String core = head + binary(check, 15);
      if (isRight(core)) {
        return padded(core);
      }
    }
    throw new AssertionError("no check makes the core right");
  }

  /** The levels of the wire over a whole frame that is answered. */
  static String frame(int id, int bytes, int data) {
    return text(core(id, bytes, data)) + "1" + "0" + "1" + "1111111";
  }

  static String text(int[] levels) {
    StringBuilder text = new StringBuilder();
    for (int level : levels) {
      text.append(level);
    }
    return text.toString();
  }

  /** What the wire of a new bus of two has from the start of a frame up to the last bit of its tail. */
  static String sent(int id, int bytes, int data) {
    StrongBus bus = new StrongBus(2);
    bus.request(0, id, bytes, data);
    return passing(bus, core(id, bytes, data).length + 10);
  }

  /** The core of a frame on the wire, without its pads. */
  static String coreOf(String wire, int bytes) {
    String core = "";
    int equal = 0;
    char latest = ' ';
    for (int i = 0; core.length() < 34 + 8 * bytes; i++) {
      boolean pad = equal == 5;
      equal = wire.charAt(i) == latest ? equal + 1 : 1;
      latest = wire.charAt(i);
      core += pad ? "" : latest;
    }
    return core;
  }

  /** Passes n bit times: the levels of the wire in them. */
  static String passing(StrongBus bus, int n) {
    StringBuilder text = new StringBuilder();
    for (int passed = 0; passed < n; passed += KEPT) {
      int now = Math.min(KEPT, n - passed);
      bus.pass(now);
      for (int i = now - 1; i >= 0; i--) {
        text.append(bus.level(i));
      }
    }
    return text.toString();
  }

  static void disturb(StrongBus bus, int node, int from, int to) {
    for (int n = from; n <= to; n++) {
      bus.disturb(node, n);
    }
  }

  /**
   * A node for which a frame waits, on a bus of two at rest, errs so often in its start: T is 8 more each time, and R
   * of the other one 1. Few calls each time, as an object is promised for 512 only.
   */
  static void errAtStart(StrongBus bus, int node, int times) {
    for (int i = 0; i < times; i++) {
      bus.disturb(node, 1);
      bus.pass(1);
      if (bus.state(node) != OFF) {
        bus.pass(bus.count(node, 0) > 127 ? PASSIVE_ROUND : ACTIVE_ROUND);
      }
    }
  }

  /** A bus of two at rest where a plain frame waits at node 0, whose T is 8 times as many as the errors. */
  static StrongBus withErrors(int errors) {
    StrongBus bus = new StrongBus(2);
    bus.request(0, 0, 0, 0);
    errAtStart(bus, 0, errors);
    return bus;
  }

  /** A bus of two at rest where T of node 0 is 1 less than with these errors, and no frame waits. */
  static StrongBus withErrorsAndAFrame(int errors) {
    StrongBus bus = withErrors(errors);
    bus.pass(WITH_PAUSE + 8);
    bus.take(1);
    return bus;
  }

  /** A bus of two at rest where R of node 1 is 169. */
  static StrongBus withHighR() {
    StrongBus bus = new StrongBus(2);
    bus.disturb(1, 1);
    // PAD in 7; a flag from 8 on of which it sees nothing, and 0 behind it up to 125: 1 + 6 * 8 + 8 + 14 * 8.
    disturb(bus, 1, 8, 13);
    disturb(bus, 1, 20, 125);
    bus.pass(200);
    return bus;
  }

  /** A bus of two at rest where R of node 1 is 127: it heard a frame with more. */
  static StrongBus withR127() {
    StrongBus bus = withHighR();
    bus.request(0, 0, 0, 0);
    bus.pass(WITH_PAUSE);
    bus.take(1);
    return bus;
  }

  /** A bus of two at rest where R of node 1 is 128: one error more than 127. */
  static StrongBus withR128() {
    StrongBus bus = withR127();
    bus.disturb(1, 1);
    // A false start and six 1, a flag that is not heard, eight 1 and a pause.
    bus.pass(7 + 6 + 8 + 3);
    return bus;
  }

  /** All that a bus of so many nodes answers without a change, but for the older levels. */
  static String picture(StrongBus bus, int nodes) {
    StringBuilder text = new StringBuilder();
    for (int node = 0; node < nodes; node++) {
      text.append(" node ").append(bus.state(node)).append(':');
      for (int which = 0; which <= 4; which++) {
        text.append(' ').append(bus.count(node, which));
      }
    }
    text.append(" totals");
    for (int which = 0; which <= 7; which++) {
      text.append(' ').append(bus.total(which));
    }
    return text.append(" level ").append(bus.level(0)).toString();
  }

  static boolean isRight(String core) {
    int register = 0;
    for (int i = 0; i < core.length(); i++) {
      int bit = core.charAt(i) - '0';
      int highest = register / 16384;
      register = register * 2 % 32768;
      if (bit != highest) {
        register ^= 17817;
      }
    }
    return register == 0;
  }

  static String binary(int number, int width) {
    String digits = Integer.toBinaryString(number);
    return "0".repeat(width - digits.length()) + digits;
  }

  private static int[] padded(String core) {
    String wire = "";
    for (int i = 0; i < core.length(); i++) {
      wire += core.charAt(i);
      if (wire.endsWith("00000")) {
        wire += "1";
      } else if (wire.endsWith("11111")) {
        wire += "0";
      }
    }
    int[] levels = new int[wire.length()];
    for (int i = 0; i < levels.length; i++) {
      levels[i] = wire.charAt(i) - '0';
    }
    return levels;
  }
}
