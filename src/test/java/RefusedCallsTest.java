/**
 * "A refused call changes nothing (but the TAPE, where it is told)": each refusal that the document names is
 * made on one of two houses alike, and both must tell the same of themselves, then and as they go on.
 */
public final class RefusedCallsTest {
  private static final int MAX = Integer.MAX_VALUE;
  private static final int MIN = Integer.MIN_VALUE;
  private static final Due due = new Due();

  private interface Step {
    void on(ToolHouse house);
  }

  private interface Call {
    long on(ToolHouse house);
  }

  public static void main(String[] args) {
    busyHouseIsAsMeant();
    stockIsRefused();
    stockThatIsFullIsRefused();
    tapeIsRefused();
    lawIsRefusedAtTwenty();
    textWithAFaultTakesTheTapeAlone();
    looksAreRefused();
    asksAreRefused();
    sixthThatIsPendingIsRefused();
    offIsRefused();
    outIsRefusedAsNoSuchOne();
    outIsRefusedByEachHindrance();
    backIsRefused();
    workIsRefused();
    daysAreRefused();
    daysAboveFiveThousandAreRefused();
    viewsAreRefused();
    due.finish();
  }

  /**
   * Day 3. Asks 0 to 8: OUT (LATE, on thing 0), BACK, LOST, CALLED OFF, REFUSED, BOOKED (today), BOOKED (to come),
   * PENDING, PENDING. Ten bytes are on the tape, and the latest text had a fault.
   */
  private static ToolHouse busyHouse() {
    ToolHouse x = new ToolHouse();
    x.kind(1, 1, 10);
    x.kind(0, 3, 7);
    x.thing(0);
    x.thing(0);
    x.thing(1);
    x.member();
    x.member();
    x.ask(0, 0, 0, 0, 1, 0);
    x.ask(1, 1, 0, 0, 0, 1);
    x.ask(0, 0, 0, 0, 2, 2);
    x.ask(0, 0, 0, 9, 9, 0);
    x.off(3);
    x.ask(1, 1, 0, 0, 0, 0);
    x.plan();
    x.out(0);
    x.out(1);
    x.back(1);
    x.days(2);
    x.look(2);
    x.days(1);
    x.ask(1, 1, 0, 3, 4, 1);
    x.ask(1, 1, 0, 6, 8, 2);
    x.plan();
    x.ask(0, 0, 1, 4, 5, 1);
    x.ask(1, 0, 0, 7, 7, 0);
    Due.tell(x, "every 1 9;");
    Due.tell(x, "every 0;");
    Due.feed(x, "every 1 5;");
    return x;
  }

  private static void busyHouseIsAsMeant() {
    ToolHouse x = busyHouse();
    int[] states = {3, 4, 5, 6, 2, 1, 1, 0, 0};
    for (int ask = 0; ask < states.length; ask++) {
      due.of(x, ask, 0, states[ask]);
    }
    due.is("thing 0 is LATE", x.thingOf(0, 3), 1);
    due.is("place()", x.place(), 7);
    due.is("bytes", x.count(6), 10);
    due.is("look of thing 2", x.thingOf(2, 1), 2);
  }

  private static void refused(String name, long answer, Call call) {
    refusedBehind(name, x -> { }, answer, call);
  }

  private static void refusedBehind(String name, Step first, long answer, Call call) {
    ToolHouse without = busyHouse();
    ToolHouse with = busyHouse();
    first.on(without);
    first.on(with);
    due.is(name, call.on(with), answer);
    due.same("behind " + name, Story.of(with), Story.of(without));
    due.same("on from " + name, Story.goesOn(with), Story.goesOn(without));
  }

  private static void stockIsRefused() {
    int[][] kinds = {{-1, 0, 0}, {6, 0, 0}, {0, -1, 0}, {0, 256, 0}, {0, 0, -1}, {0, 0, 101}};
    for (int[] k : kinds) {
      refused("kind(" + k[0] + ", " + k[1] + ", " + k[2] + ")", -1, x -> x.kind(k[0], k[1], k[2]));
    }
    for (int kind : new int[] {-1, 2, MIN, MAX}) {
      refused("thing(" + kind + ")", -1, x -> x.thing(kind));
    }
  }

  private static void stockThatIsFullIsRefused() {
    refusedBehind("a ninth kind", x -> {
      for (int i = 2; i < 8; i++) x.kind(0, 0, 0);
    }, -1, x -> x.kind(5, 1, 1));
    refusedBehind("a thirteenth thing", x -> {
      for (int i = 3; i < 12; i++) x.thing(0);
    }, -1, x -> x.thing(1));
    refusedBehind("an eleventh member", x -> {
      for (int i = 2; i < 10; i++) x.member();
    }, -1, x -> x.member());
  }

  private static void tapeIsRefused() {
    refusedBehind("feed beyond 200", x -> {
      for (int i = 0; i < 9; i++) x.feed(0x20202020, 0x20202020, 0x0a0a0a0a, 0x20202020, 0x20202020);
    }, -1, x -> x.feed(0x65766572, 0x79203020, 0x3332313b, 0x65766572, 0x7920303b));
    for (int n : new int[] {-1, 11, 200, MIN, MAX}) {
      refused("end(" + n + ")", -1, x -> x.end(n));
    }
  }

  private static void lawIsRefusedAtTwenty() {
    Step twenty = x -> {
      x.end(0);
      for (int i = 1; i < 20; i++) x.law();
      Due.feed(x, "every 1 5;");
    };
    refusedBehind("a good text at 20", twenty, -1, x -> x.law());
    Step fault = x -> {
      twenty.on(x);
      x.end(5);
    };
    refusedBehind("a text with a fault at 20", fault, -1, x -> x.law());
  }

  /** Cutting the tape to nothing does the same as telling a text with a fault, but for place(). */
  private static void textWithAFaultTakesTheTapeAlone() {
    String[] texts = {"every 0 0;every 1 0;every", "every 0 0;every 1 0;every 2 1;", "?", "every 1 3;x"};
    int[] answers = {-2, -3, -2, -2};
    for (int i = 0; i < texts.length; i++) {
      ToolHouse with = busyHouse();
      ToolHouse without = busyHouse();
      with.end(0);
      without.end(0);
      Due.feed(with, texts[i]);
      due.is("law '" + texts[i] + "'", with.law(), answers[i]);
      due.same("behind '" + texts[i] + "'", Story.withoutPlace(with), Story.withoutPlace(without));
      due.same("on from '" + texts[i] + "'", Story.goesOn(with), Story.goesOn(without));
    }
  }

  private static void looksAreRefused() {
    for (int thing : new int[] {-1, 3, MIN, MAX}) {
      refused("look(" + thing + ")", 0, x -> x.look(thing) ? 1 : 0);
      refused("lawful(" + thing + ", 3)", -1, x -> x.lawful(thing, 3));
    }
    refused("look of one that is OUT", 0, x -> x.look(0) ? 1 : 0);
    refused("lawful ahead of DAY", -1, x -> x.lawful(2, 2));
  }

  private static void asksAreRefused() {
    int[][] wrong = {{-1, 0, 0, 3, 3, 0}, {2, 0, 0, 3, 3, 0}, {0, -1, 0, 3, 3, 0}, {0, 2, 0, 3, 3, 0},
        {0, 0, -1, 3, 3, 0}, {0, 0, 256, 3, 3, 0}, {0, 0, 0, 2, 3, 0}, {0, 0, 0, 63, 64, 0}, {0, 0, 0, 3, 18, 0},
        {0, 0, 0, 4, 3, 0}, {0, 0, 0, 3, 3, -1}, {0, 0, 0, 3, 3, 3}};
    for (int[] w : wrong) {
      refused("ask" + java.util.Arrays.toString(w), -1, x -> x.ask(w[0], w[1], w[2], w[3], w[4], w[5]));
    }
  }

  private static void sixthThatIsPendingIsRefused() {
    refusedBehind("a sixth that is PENDING", x -> {
      for (int i = 2; i < 5; i++) x.ask(0, 0, 0, 3, 3, 0);
    }, -1, x -> x.ask(0, 0, 0, 3, 3, 2));
  }

  private static void offIsRefused() {
    for (int ask : new int[] {0, 1, 2, 3, 4, -1, 9, MIN, MAX}) {
      refused("off(" + ask + ")", 0, x -> x.off(ask) ? 1 : 0);
    }
  }

  private static void outIsRefusedAsNoSuchOne() {
    for (int ask : new int[] {0, 1, 2, 3, 4, 7, -1, 9, MIN, MAX}) {
      refused("out(" + ask + ")", -1, x -> x.out(ask));
    }
  }

  private static void outIsRefusedByEachHindrance() {
    refused("out ahead of its first day", -2, x -> x.out(6));
    refusedBehind("out of a member who owes more than 40", x -> {
      x.out(5);
      x.days(20);
      x.back(5);
      x.ask(1, 0, 0, 23, 23, 0);
      x.plan();
    }, -3, x -> x.out(9));
    Step lateOneOut = x -> {
      x.ask(0, 1, 0, 5, 5, 0);
      x.days(3);
      x.plan();
      x.out(9);
    };
    refusedBehind("out of a thing that is OUT", lateOneOut, -4, x -> x.out(6));
    refusedBehind("out against the law", x -> {
      x.end(0);
      Due.tell(x, "every 1 1;");
    }, -5, x -> x.out(5));
    refusedBehind("out of a thing in care", x -> {
      lateOneOut.on(x);
      x.back(9);
    }, -6, x -> x.out(6));
  }

  private static void backIsRefused() {
    for (int ask : new int[] {1, 2, 3, 4, 5, 6, 7, -1, 9, MIN, MAX}) {
      refused("back(" + ask + ")", -1, x -> x.back(ask));
    }
  }

  private static void workIsRefused() {
    for (int hours : new int[] {0, -1, 101, MIN, MAX}) {
      refused("work(1, " + hours + ")", -1, x -> x.work(1, hours));
    }
    for (int member : new int[] {-1, 2, MIN, MAX}) {
      refused("work(" + member + ", 1)", -1, x -> x.work(member, 1));
    }
  }

  private static void daysAreRefused() {
    for (int n : new int[] {0, -1, 61, MIN, MAX}) {
      refused("days(" + n + ")", -1, x -> x.days(n));
    }
  }

  /** The days that would still go by don't begin, either: what is BOOKED for the last ones stays so. */
  private static void daysAboveFiveThousandAreRefused() {
    refusedBehind("days to 5001", x -> {
      for (int i = 0; i < 83; i++) x.days(60);
      x.days(15);
      x.ask(0, 1, 0, 4998, 4998, 0);
      x.plan();
    }, -1, x -> x.days(3));
  }

  private static void viewsAreRefused() {
    for (int wrong : new int[] {-1, 9, MIN, MAX}) {
      refused("of(" + wrong + ", 0)", Due.NO_SUCH_ELEMENT, x -> Due.answerOf(x, wrong, 0));
      refused("of(0, " + wrong + ")", Due.NO_SUCH_ELEMENT, x -> Due.answerOf(x, 0, wrong));
      refused("buy(" + wrong + ")", -1, x -> x.buy(wrong));
      refused("thingOf(" + wrong + ", 0)", -1, x -> x.thingOf(wrong, 0));
      refused("thingOf(0, " + wrong + ")", -1, x -> x.thingOf(0, wrong));
      refused("memberOf(" + wrong + ", 0)", -1, x -> x.memberOf(wrong, 0));
      refused("memberOf(0, " + wrong + ")", -1, x -> x.memberOf(0, wrong));
      refused("count(" + wrong + ")", -1, x -> x.count(wrong));
      refused("isFree(" + wrong + ", 3, 3)", -1, x -> x.isFree(wrong, 3, 3));
    }
    refused("isFree ahead of DAY", -1, x -> x.isFree(1, 2, 3));
    refused("isFree of days out of order", -1, x -> x.isFree(1, 4, 3));
  }
}
