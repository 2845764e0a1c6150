/** Promises 19 to 22: what is told of asks, things and members, and whether a thing would be free. */
public final class ViewTest {
  private static final int MAX = Integer.MAX_VALUE;
  private static final int MIN = Integer.MIN_VALUE;
  private static final Due due = new Due();

  public static void main(String[] args) {
    promise19Of();
    promise19NoSuchElement();
    promise20ThingOf();
    promise21IsFree();
    promise21FreeOfOneThatIsOut();
    promise21FreeOfOneThatCameBack();
    promise21Wrong();
    promise22MemberOf();
    due.finish();
  }

  private static ToolHouse house() {
    ToolHouse x = new ToolHouse();
    x.kind(1, 0, 2);
    x.kind(1, 4, 3);
    x.thing(0);
    x.thing(1);
    x.member();
    x.member();
    return x;
  }

  private static void promise19Of() {
    ToolHouse x = house();
    x.ask(1, 0, 4, 2, 3, 1);
    x.ask(0, 0, 4, 2, 4, 2);
    x.ask(0, 1, 0, 2, 4, 0);
    x.plan();
    int[][] want = {{1, 0, 0, 1, 0, 2, 3, 1, 0}, {1, 1, 0, 0, 0, 2, 4, 2, 1},
        {2, -1, 0, 0, 1, 2, 4, 0, -1}};
    for (int ask = 0; ask < want.length; ask++) {
      for (int what = 0; what < want[ask].length; what++) {
        due.of(x, ask, what, want[ask][what]);
      }
    }
  }

  private static void promise19NoSuchElement() {
    ToolHouse x = house();
    due.of(x, 0, 0, Due.NO_SUCH_ELEMENT);
    x.ask(0, 0, 0, 0, 0, 0);
    int[] numbers = {-1, 1, 9, 120, MIN, MAX};
    for (int ask : numbers) {
      due.of(x, ask, 0, Due.NO_SUCH_ELEMENT);
    }
    int[] whats = {-1, 9, 10, MIN, MAX};
    for (int what : whats) {
      due.of(x, 0, what, Due.NO_SUCH_ELEMENT);
    }
    due.of(x, 0, 0, 0);
  }

  private static void promise20ThingOf() {
    ToolHouse x = house();
    int[] fresh = {1, -1, -1, 0, 0};
    for (int what = 0; what < fresh.length; what++) {
      due.is("new thingOf(1, " + what + ")", x.thingOf(1, what), fresh[what]);
    }
    x.ask(0, 0, 0, 0, 1, 0);
    x.ask(0, 0, 0, 4, 4, 0);
    x.ask(0, 0, 0, 7, 7, 0);
    x.plan();
    x.look(0);
    due.is("BOOKED on it", x.thingOf(0, 4), 3);
    x.out(0);
    int[] out = {0, 0, 0, 0, 2};
    for (int what = 0; what < out.length; what++) {
      due.is("thingOf(0, " + what + ") while OUT", x.thingOf(0, what), out[what]);
    }
    x.days(2);
    due.is("LATE", x.thingOf(0, 3), 1);
    x.back(0);
    due.is("LATE behind BACK", x.thingOf(0, 3), 0);
    due.is("its ask behind BACK", x.thingOf(0, 2), -1);
    int[] others = {-1, 5, MIN, MAX};
    for (int what : others) {
      due.is("thingOf(0, " + what + ")", x.thingOf(0, what), -1);
    }
    int[] noThings = {-1, 2, MIN, MAX};
    for (int thing : noThings) {
      due.is("thingOf(" + thing + ", 3)", x.thingOf(thing, 3), -1);
    }
  }

  private static void promise21IsFree() {
    ToolHouse x = house();
    x.ask(0, 0, 0, 5, 7, 0);
    due.is("isFree while it is PENDING", x.isFree(0, 5, 7), 1);
    x.plan();
    due.is("up to day 3", x.isFree(0, 0, 3), 1);
    due.is("up to day 4", x.isFree(0, 0, 4), 0);
    due.is("from day 8", x.isFree(0, 8, 8), 0);
    due.is("from day 9", x.isFree(0, 9, 9), 1);
    due.is("all around", x.isFree(0, 0, 60), 0);
    due.is("within", x.isFree(0, 6, 6), 0);
    due.is("to MAX", x.isFree(0, 0, MAX), 0);
    due.is("from 9 to MAX", x.isFree(0, 9, MAX), 1);
    due.is("MAX alone", x.isFree(0, MAX, MAX), 1);
    due.is("the other thing", x.isFree(1, 0, MAX), 1);
  }

  private static void promise21FreeOfOneThatIsOut() {
    ToolHouse x = house();
    x.ask(0, 0, 0, 0, 3, 0);
    x.plan();
    x.out(0);
    due.is("OUT, ahead of its last day and CARE", x.isFree(0, 4, 4), 0);
    due.is("OUT, behind its last day and CARE", x.isFree(0, 5, 5), 1);
    x.days(5);
    due.is("LATE, today", x.isFree(0, 5, 5), 0);
    due.is("LATE, tomorrow", x.isFree(0, 6, 6), 0);
    due.is("LATE, behind today and CARE", x.isFree(0, 7, 7), 1);
  }

  private static void promise21FreeOfOneThatCameBack() {
    ToolHouse x = house();
    x.ask(0, 0, 0, 0, 9, 0);
    x.plan();
    x.out(0);
    x.days(2);
    x.back(0);
    due.is("BACK, today", x.isFree(0, 2, 2), 0);
    due.is("BACK, tomorrow", x.isFree(0, 3, 3), 0);
    due.is("BACK, behind its CARE", x.isFree(0, 4, 9), 1);
  }

  private static void promise21Wrong() {
    ToolHouse x = house();
    x.days(3);
    int[][] wrong = {{-1, 3, 3}, {2, 3, 3}, {MIN, 3, 3}, {MAX, 3, 3}, {0, 2, 3}, {0, 4, 3}, {0, 3, 2},
        {0, MIN, 3}, {0, MAX, MIN}, {0, MIN, MAX}, {0, MAX, 5}, {0, -1, -1}};
    for (int[] w : wrong) {
      due.is("isFree(" + w[0] + ", " + w[1] + ", " + w[2] + ")", x.isFree(w[0], w[1], w[2]), -1);
    }
    due.is("isFree(0, 3, 3)", x.isFree(0, 3, 3), 1);
  }

  private static void promise22MemberOf() {
    ToolHouse x = house();
    x.ask(1, 0, 0, 0, 1, 0);
    x.ask(1, 1, 0, 0, 2, 0);
    x.plan();
    x.out(0);
    due.is("asks that are OUT", x.memberOf(1, 2), 1);
    x.out(1);
    due.is("asks that are OUT", x.memberOf(1, 2), 2);
    due.is("HOURS while OUT", x.memberOf(1, 0), 0);
    x.back(0);
    x.back(1);
    int[] want = {5, 13, 0};
    for (int what = 0; what < want.length; what++) {
      due.is("memberOf(1, " + what + ")", x.memberOf(1, what), want[what]);
      due.is("memberOf(0, " + what + ")", x.memberOf(0, what), 0);
    }
    int[] others = {-1, 3, MIN, MAX};
    for (int what : others) {
      due.is("memberOf(1, " + what + ")", x.memberOf(1, what), -1);
    }
    int[] noMembers = {-1, 2, MIN, MAX};
    for (int member : noMembers) {
      due.is("memberOf(" + member + ", 0)", x.memberOf(member, 0), -1);
    }
  }
}
