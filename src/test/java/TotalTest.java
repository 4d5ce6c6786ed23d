/** Promise 10. */
public final class TotalTest {
  private static final Check CHECK = new Check("promise 10, total");

  public static void main(String[] args) {
    refuses();
    bitTimesAndFrames();
    bitErrors();
    padErrors();
    shapeErrors();
    checkAndAnswerErrors();
    overloads();
    uncountedAnswers();
    CHECK.end();
  }

  private static void totals(StrongBus bus, String when, int... fromBit) {
    for (int i = 0; i < fromBit.length; i++) {
      CHECK.due(when + ": total(" + (2 + i) + ")", bus.total(2 + i), fromBit[i]);
    }
  }

  private static void refuses() {
    StrongBus bus = new StrongBus(2);
    for (int which : new int[] {-1, 8, Integer.MAX_VALUE, Integer.MIN_VALUE}) {
      CHECK.badArgument("total(" + which + ")", () -> bus.total(which));
    }
    CHECK.due("total(7)", bus.total(7), 0);
  }

  private static void bitTimesAndFrames() {
    StrongBus bus = new StrongBus(2);
    bus.request(0, 0, 0, 0);
    bus.request(1, 1, 0, 0);
    bus.pass(49);
    CHECK.due("total(0)", bus.total(0), 49);
    CHECK.due("total(1)", bus.total(1), 0);
    bus.pass(1);
    CHECK.due("total(1)", bus.total(1), 1);
    bus.pass(200);
    CHECK.due("total(0)", bus.total(0), 250);
    CHECK.due("total(1)", bus.total(1), 2);
    totals(bus, "no error", 0, 0, 0, 0, 0, 0);
  }

  private static void bitErrors() {
    StrongBus bus = new StrongBus(4);
    bus.request(0, 0, 0, 0);
    bus.disturb(0, 1);
    bus.pass(1);
    totals(bus, "BIT", 1, 0, 0, 0, 0, 0);
    bus.pass(5);
    totals(bus, "three hearing ones err by its flag", 1, 3, 0, 0, 0, 0);
    bus.pass(17);
    totals(bus, "no more", 1, 3, 0, 0, 0, 0);
  }

  private static void padErrors() {
    StrongBus bus = new StrongBus(2);
    bus.request(0, 0, 0, 0);
    bus.disturb(1, 6);
    bus.pass(6);
    totals(bus, "PAD", 0, 1, 0, 0, 0, 0);
    bus.pass(1);
    // The flag's first 0 is in bit 5 of the sender's frame, where that is 0 as well.
    totals(bus, "the sender drives 0, too", 0, 1, 0, 0, 0, 0);
    bus.pass(5);
    totals(bus, "its next pad is one of the flag's", 1, 1, 0, 0, 0, 0);
  }

  private static void shapeErrors() {
    StrongBus bus = new StrongBus(2);
    bus.request(0, 1365, 0, 0);
    bus.disturb(1, 13);
    bus.pass(13);
    totals(bus, "SHAPE", 0, 0, 1, 0, 0, 0);
    StrongBus three = new StrongBus(3);
    three.request(0, 0, 0, 0);
    three.disturb(1, 44);
    three.pass(44);
    totals(three, "SHAPE in the tail", 0, 0, 1, 0, 0, 0);
    three.pass(1);
    totals(three, "its flag", 1, 0, 2, 0, 0, 0);
  }

  private static void checkAndAnswerErrors() {
    int end = Line.core(1365, 2, 43690).length + 1;
    StrongBus bus = new StrongBus(2);
    bus.request(0, 1365, 2, 43690);
    bus.disturb(1, 26);
    bus.pass(end);
    totals(bus, "the end", 0, 0, 0, 0, 0, 0);
    bus.pass(1);
    totals(bus, "the answer", 0, 0, 0, 0, 1, 0);
    bus.pass(1);
    totals(bus, "the gap", 0, 0, 0, 1, 1, 0);
  }

  private static void overloads() {
    StrongBus bus = new StrongBus(4);
    bus.request(0, 0, 0, 0);
    bus.disturb(2, 51);
    bus.pass(51);
    totals(bus, "one", 0, 0, 0, 0, 0, 1);
    bus.pass(1);
    totals(bus, "all", 0, 0, 0, 0, 0, 4);
    bus.pass(100);
    totals(bus, "no more", 0, 0, 0, 0, 0, 4);
  }

  private static void uncountedAnswers() {
    StrongBus bus = Line.withErrors(17);
    totals(bus, "before", 17, 17, 0, 0, 0, 0);
    bus.disturb(0, 42);
    bus.pass(60);
    totals(bus, "an ANSWER of a passive one", 17, 17, 0, 0, 0, 0);
  }
}
