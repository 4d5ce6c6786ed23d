/** Promise 4. */
public final class DisturbTest {
  private static final Check CHECK = new Check("promise 4, disturb");

  public static void main(String[] args) {
    for (int n : new int[] {1, 2, 63, 64, 199, 200}) {
      hitsItsBitTime(n, 0);
      hitsItsBitTime(n, 150);
    }
    isNotTwice();
    ofANodeAlone();
    turnsOneInto0AndBack();
    refuses();
    CHECK.end();
  }

  private static void hitsItsBitTime(int n, int before) {
    StrongBus bus = new StrongBus(2);
    if (before > 0) {
      bus.pass(before);
    }
    bus.disturb(1, n);
    if (n > 1) {
      bus.pass(n - 1);
    }
    CHECK.due("before bit time " + n + ": state(1)", bus.state(1), Line.IDLE);
    bus.pass(1);
    CHECK.due("in bit time " + n + ": state(1)", bus.state(1), Line.HEARING);
    CHECK.due("the wire is not touched: level(0)", bus.level(0), 1);
    CHECK.due("the other node neither: state(0)", bus.state(0), Line.IDLE);
  }

  private static void isNotTwice() {
    StrongBus bus = new StrongBus(2);
    bus.disturb(0, 3);
    bus.pass(1);
    bus.disturb(0, 2);
    bus.pass(2);
    CHECK.due("asked for twice it is disturbed: state(0)", bus.state(0), Line.HEARING);
    bus.pass(200);
    bus.pass(200);
    CHECK.due("and not again: state(0)", bus.state(0), Line.IDLE);
    CHECK.due("total(3)", bus.total(3), 2);
  }

  private static void ofANodeAlone() {
    StrongBus bus = new StrongBus(4);
    bus.disturb(2, 1);
    bus.disturb(3, 2);
    bus.pass(1);
    CHECK.due("state(2)", bus.state(2), Line.HEARING);
    CHECK.due("state(3)", bus.state(3), Line.IDLE);
    bus.pass(1);
    CHECK.due("state(3)", bus.state(3), Line.HEARING);
    CHECK.due("state(0)", bus.state(0), Line.IDLE);
    CHECK.due("state(1)", bus.state(1), Line.IDLE);
  }

  private static void turnsOneInto0AndBack() {
    StrongBus bus = new StrongBus(2);
    bus.request(0, 0, 0, 0);
    bus.disturb(1, 1);
    bus.pass(1);
    CHECK.due("a start that is not seen: state(1)", bus.state(1), Line.IDLE);
    bus.pass(1);
    CHECK.due("then bit 1 is one: state(1)", bus.state(1), Line.HEARING);
  }

  private static void refuses() {
    StrongBus bus = new StrongBus(2);
    CHECK.badArgument("disturb(-1, 1)", () -> bus.disturb(-1, 1));
    CHECK.badArgument("disturb(2, 1)", () -> bus.disturb(2, 1));
    CHECK.badArgument("disturb(0, 0)", () -> bus.disturb(0, 0));
    CHECK.badArgument("disturb(0, -1)", () -> bus.disturb(0, -1));
    CHECK.badArgument("disturb(0, 201)", () -> bus.disturb(0, 201));
    CHECK.badArgument("disturb(0, MAX)", () -> bus.disturb(0, Integer.MAX_VALUE));
    CHECK.badArgument("disturb(0, MIN)", () -> bus.disturb(0, Integer.MIN_VALUE));
    bus.pass(200);
    bus.pass(200);
    CHECK.due("a refused call disturbs nothing: total(3)", bus.total(3), 0);
  }
}
