import java.util.Arrays;

/** Frames as the document's terms lay them out, and ways to bring a bus where a test wants it. */
final class Line {
  static final int IDLE = 0;
  static final int SENDING = 1;
  static final int HEARING = 2;
  static final int FLAG = 3;
  static final int AFTER = 4;
  static final int PAUSE = 5;
  static final int SUSPENDED = 6;
  static final int OFF = 7;

  private static final int KEPT = 64;
  // Its flag, what is left of the other one's, eight 1 and a pause; a passive one is suspended, too.
  private static final int ACTIVE_ROUND = 6 + 5 + 8 + 3;
  private static final int PASSIVE_ROUND = 6 + 6 + 8 + 3 + 8;

  private Line() {
  }

  /** The padded core. The check is searched for, not reckoned, so that it rests on the definition of RIGHT alone. */
  static int[] core(int id, int bytes, int data) {
    String head = "0" + binary(id, 11) + "000" + binary(bytes, 4);
    for (int i = 0; i < bytes; i++) {
      head += binary(data >> 8 * i & 255, 8);
    }
    for (int check = 0; check < 32768; check++) {
      String core = head + binary(check, 15);
      if (isRight(core)) {
        return padded(core);
      }
    }
    throw new AssertionError("no check makes the core right");
  }

  /** The levels of the wire over a whole frame that is answered. */
  static int[] frame(int id, int bytes, int data) {
    int[] core = core(id, bytes, data);
    int[] frame = Arrays.copyOf(core, core.length + 10);
    Arrays.fill(frame, core.length, frame.length, 1);
    frame[core.length + 1] = 0;
    return frame;
  }

  static String text(int[] levels) {
    StringBuilder text = new StringBuilder();
    for (int level : levels) {
      text.append(level);
    }
    return text.toString();
  }

  /** Passes n bit times: the levels of the wire in them. */
  static String passing(StrongBus bus, int n) {
    StringBuilder text = new StringBuilder();
    for (int passed = 0; passed < n; passed += KEPT) {
      int now = Math.min(KEPT, n - passed);
      bus.pass(now);
      for (int i = now - 1; i >= 0; i--) {
        text.append(bus.level(i));
      }
    }
    return text.toString();
  }

  /**
   * A node for which a frame waits, on a bus of two at rest, errs so often in its start: T is 8 more each time, and R
   * of the other one 1. Few calls each time, as an object is promised for 512 only.
   */
  static void errAtStart(StrongBus bus, int node, int times) {
    for (int i = 0; i < times; i++) {
      bus.disturb(node, 1);
      bus.pass(1);
      if (bus.state(node) != OFF) {
        bus.pass(bus.count(node, 0) > 127 ? PASSIVE_ROUND : ACTIVE_ROUND);
      }
    }
  }

  /** A bus of two where a frame of ID 0 without bytes waits at node 0, whose T is 8 times as many as the errors. */
  static StrongBus withErrors(int errors) {
    StrongBus bus = new StrongBus(2);
    bus.request(0, 0, 0, 0);
    errAtStart(bus, 0, errors);
    return bus;
  }

  private static boolean isRight(String core) {
    int register = 0;
    for (int i = 0; i < core.length(); i++) {
      int bit = core.charAt(i) - '0';
      int highest = register / 16384;
      register = register * 2 % 32768;
      if (bit != highest) {
        register ^= 17817;
      }
    }
    return register == 0;
  }

  private static int[] padded(String core) {
    String wire = "";
    for (int i = 0; i < core.length(); i++) {
      wire += core.charAt(i);
      if (wire.endsWith("00000")) {
        wire += "1";
      } else if (wire.endsWith("11111")) {
        wire += "0";
      }
    }
    int[] levels = new int[wire.length()];
    for (int i = 0; i < levels.length; i++) {
      levels[i] = wire.charAt(i) - '0';
    }
    return levels;
  }

  private static String binary(int number, int width) {
    String digits = Integer.toBinaryString(number);
    return "0".repeat(width - digits.length()) + digits;
  }
}
