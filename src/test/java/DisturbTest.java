@Section("Promise 4: disturb")
public final class DisturbTest {
  private static final Check CHECK = new Check(DisturbTest.class);

  public static void main(String[] args) {
    CHECK.run();
  }

  @Says("A node is disturbed in the bit time that is n behind the latest one")
  static void hitsItsBitTimeAlone() {
    for (int n : new int[] {2, 63, 64, 199, 200}) {
      for (int before : new int[] {0, 1, 150, 199}) {
        hits(n, before);
      }
    }
  }

  @Says("(1: the next one).")
  static void oneIsTheNext() {
    for (int before : new int[] {0, 1, 150, 199, 200}) {
      hits(1, before);
    }
  }

  @Says("A node is disturbed in the bit time that is n behind the latest one")
  static void isOfThatNodeAlone() {
    for (int node = 0; node < 4; node++) {
      StrongBus bus = new StrongBus(4);
      bus.disturb(node, 1);
      bus.pass(1);
      for (int other = 0; other < 4; other++) {
        CHECK.due("state(" + other + ")", bus.state(other), other == node ? Line.HEARING : Line.IDLE);
      }
    }
  }

  @Says("A node is disturbed in the bit time that is n behind the latest one")
  static void severalAreKept() {
    StrongBus bus = new StrongBus(2);
    // A false start, and a false pad behind five 1.
    bus.disturb(1, 200);
    bus.disturb(1, 1);
    bus.disturb(1, 7);
    bus.pass(12);
    CHECK.due("a pad in 7, and five 1 behind it: state(1)", bus.state(1), Line.HEARING);
    bus.pass(1);
    CHECK.due("no pad in 13: state(1)", bus.state(1), Line.FLAG);
    bus.pass(186);
    CHECK.due("at rest: state(1)", bus.state(1), Line.IDLE);
    bus.pass(1);
    CHECK.due("in 200: state(1)", bus.state(1), Line.HEARING);
  }

  @Says("A node is disturbed in the bit time that is n behind the latest one")
  static void twiceIsOnce() {
    StrongBus bus = new StrongBus(2);
    bus.disturb(0, 3);
    bus.pass(1);
    bus.disturb(0, 2);
    bus.pass(2);
    CHECK.due("asked for twice it is disturbed: state(0)", bus.state(0), Line.HEARING);
  }

  @Says("A node is disturbed in the bit time that is n behind the latest one")
  static void doesNotComeBack() {
    for (int n : new int[] {1, 100, 200}) {
      StrongBus bus = new StrongBus(2);
      bus.disturb(0, n);
      for (int i = 0; i < 5; i++) {
        bus.pass(200);
      }
      // One false start: PAD of that node, and of the one that sees its flag.
      CHECK.due("disturbed in " + n + " only: total(3)", bus.total(3), 2);
    }
  }

  @Says("IllegalArgumentException: there is no such node,")
  static void noSuchNode() {
    for (int nodes = 2; nodes <= 4; nodes++) {
      StrongBus bus = new StrongBus(nodes);
      for (int node : new int[] {-1, nodes, Integer.MIN_VALUE, Integer.MAX_VALUE}) {
        CHECK.badArgument("disturb(" + node + ", 1) of " + nodes, () -> bus.disturb(node, 1));
      }
      bus.pass(20);
      CHECK.due("none is disturbed: total(3)", bus.total(3), 0);
      bus.disturb(nodes - 1, 1);
      bus.pass(1);
      CHECK.due("the last one is: state", bus.state(nodes - 1), Line.HEARING);
    }
  }

  @Says("or n is not 1 .. 200.")
  static void tooNearOrTooFar() {
    StrongBus bus = new StrongBus(2);
    bus.pass(3);
    for (int n : new int[] {0, -1, -200, 201, 202, 402, Integer.MIN_VALUE, Integer.MAX_VALUE}) {
      CHECK.badArgument("disturb(0, " + n + ")", () -> bus.disturb(0, n));
    }
    for (int i = 0; i < 5; i++) {
      bus.pass(200);
    }
    CHECK.due("a refused call disturbs nothing: total(3)", bus.total(3), 0);
    CHECK.due("state(0)", bus.state(0), Line.IDLE);
  }

  private static void hits(int n, int before) {
    StrongBus bus = new StrongBus(2);
    if (before > 0) {
      bus.pass(before);
    }
    bus.disturb(1, n);
    if (n > 1) {
      bus.pass(n - 1);
    }
    CHECK.due("before bit time " + n + ": state(1)", bus.state(1), Line.IDLE);
    bus.pass(1);
    CHECK.due("in bit time " + n + ": state(1)", bus.state(1), Line.HEARING);
    CHECK.due("the wire is not touched: level(0)", bus.level(0), 1);
    bus.pass(5);
    CHECK.due("the next ones are not: state(1)", bus.state(1), Line.HEARING);
    bus.pass(1);
    CHECK.due("nor the sixth: PAD: total(3)", bus.total(3), 1);
  }
}
