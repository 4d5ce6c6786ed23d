@Section("Promise 7: state")
public final class StateTest {
  private static final Check CHECK = new Check(StateTest.class);

  public static void main(String[] args) {
    CHECK.run();
  }

  @Says("The state of a node.")
  static void isThatOfTheNodeAsked() {
    StrongBus bus = new StrongBus(4);
    bus.request(2, 0, 0, 0);
    bus.disturb(1, 1);
    bus.pass(1);
    CHECK.due("state(0)", bus.state(0), Line.HEARING);
    CHECK.due("state(1)", bus.state(1), Line.IDLE);
    CHECK.due("state(2)", bus.state(2), Line.SENDING);
    CHECK.due("state(3)", bus.state(3), Line.HEARING);
  }

  @Says("The state of a node.")
  static void overAFrameWithoutErrors() {
    StrongBus bus = new StrongBus(2);
    bus.request(0, 0, 0, 0);
    states(bus, "before the start", Line.IDLE, Line.IDLE);
    bus.pass(1);
    states(bus, "the start", Line.SENDING, Line.HEARING);
    bus.pass(48);
    states(bus, "the last but one of the tail", Line.SENDING, Line.HEARING);
    bus.pass(1);
    states(bus, "the last of the tail", Line.PAUSE, Line.PAUSE);
    bus.pass(2);
    states(bus, "two of the pause", Line.PAUSE, Line.PAUSE);
    bus.pass(1);
    states(bus, "three of the pause", Line.IDLE, Line.IDLE);
  }

  @Says("The state of a node.")
  static void overAnError() {
    StrongBus bus = new StrongBus(2);
    bus.disturb(1, 1);
    bus.pass(6);
    states(bus, "a false start and five 1", Line.IDLE, Line.HEARING);
    bus.pass(1);
    states(bus, "a sixth 1", Line.IDLE, Line.FLAG);
    bus.pass(1);
    states(bus, "the flag is a start", Line.HEARING, Line.FLAG);
    bus.pass(4);
    states(bus, "five 0", Line.HEARING, Line.FLAG);
    bus.pass(1);
    states(bus, "six 0", Line.FLAG, Line.AFTER);
    bus.pass(6);
    states(bus, "the other flag", Line.AFTER, Line.AFTER);
    bus.pass(8);
    states(bus, "eight 1", Line.PAUSE, Line.PAUSE);
    bus.pass(3);
    states(bus, "pause", Line.IDLE, Line.IDLE);
  }

  @Says("IllegalArgumentException: there is none.")
  static void thereIsNone() {
    for (int nodes = 2; nodes <= 4; nodes++) {
      StrongBus bus = new StrongBus(nodes);
      String before = Line.picture(bus, nodes);
      for (int node : new int[] {-1, nodes, nodes + 1, Integer.MIN_VALUE, Integer.MAX_VALUE}) {
        CHECK.badArgument("state(" + node + ") of " + nodes, () -> bus.state(node));
      }
      CHECK.due("a refused call changes nothing: the bus", Line.picture(bus, nodes), before);
      CHECK.due("the last one", bus.state(nodes - 1), Line.IDLE);
    }
  }

  private static void states(StrongBus bus, String when, int zero, int one) {
    CHECK.due(when + ": state(0)", bus.state(0), zero);
    CHECK.due(when + ": state(1)", bus.state(1), one);
  }
}
