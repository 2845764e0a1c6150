/** Promises 1 to 4 and 23: a new object, kinds, things, members, and what is counted. */
public final class StockTest {
  private static final int MAX = Integer.MAX_VALUE;
  private static final int MIN = Integer.MIN_VALUE;
  private static final Due due = new Due();

  public static void main(String[] args) {
    promise1NewObject();
    promise2Kind();
    promise2EightKinds();
    promise3Thing();
    promise4Member();
    promise23Count();
    promise23CountOfOthers();
    due.finish();
  }

  private static void promise1NewObject() {
    ToolHouse x = new ToolHouse();
    due.is("NONE", ToolHouse.NONE, -1);
    for (int what = 0; what <= 6; what++) {
      due.is("new count(" + what + ")", x.count(what), 0);
    }
    for (int what = 10; what <= 16; what++) {
      due.is("new count(" + what + ")", x.count(what), 0);
    }
    for (int what = 20; what <= 27; what++) {
      due.is("new count(" + what + ")", x.count(what), -1);
    }
    due.is("new place()", x.place(), -1);
    due.of(x, 0, 0, Due.NO_SUCH_ELEMENT);
    due.is("new thingOf(0, 0)", x.thingOf(0, 0), -1);
    due.is("new memberOf(0, 0)", x.memberOf(0, 0), -1);
    due.is("new isFree(0, 0, 0)", x.isFree(0, 0, 0), -1);
    due.is("new lawful(0, 0)", x.lawful(0, 0), -1);
    due.is("new look(0)", x.look(0), false);
    due.is("new off(0)", x.off(0), false);
    due.is("new out(0)", x.out(0), -1);
    due.is("new back(0)", x.back(0), -1);
    due.is("new buy(0)", x.buy(0), -1);
    due.is("new plan()", x.plan(), 0);
    ToolHouse y = new ToolHouse();
    x.kind(0, 0, 0);
    due.is("another object's kinds", y.count(0), 0);
  }

  private static void promise2Kind() {
    ToolHouse x = new ToolHouse();
    int[][] wrong = {{-1, 0, 0}, {6, 0, 0}, {0, -1, 0}, {0, 256, 0}, {0, 0, -1}, {0, 0, 101},
        {MIN, 0, 0}, {MAX, 0, 0}, {0, MIN, 0}, {0, MAX, 0}, {0, 0, MIN}, {0, 0, MAX}};
    for (int[] w : wrong) {
      due.is("kind(" + w[0] + ", " + w[1] + ", " + w[2] + ")", x.kind(w[0], w[1], w[2]), -1);
    }
    due.is("kinds behind refusals", x.count(0), 0);
    due.is("kind(5, 255, 100)", x.kind(5, 255, 100), 0);
    due.is("kind(0, 0, 0)", x.kind(0, 0, 0), 1);
    due.is("kinds", x.count(0), 2);
  }

  private static void promise2EightKinds() {
    ToolHouse x = new ToolHouse();
    for (int i = 0; i < 8; i++) {
      due.is("kind " + i, x.kind(1, 1, 1), i);
    }
    due.is("a ninth kind", x.kind(1, 1, 1), -1);
    due.is("kinds", x.count(0), 8);
  }

  private static void promise3Thing() {
    ToolHouse x = new ToolHouse();
    due.is("thing(0) without kinds", x.thing(0), -1);
    x.kind(0, 0, 0);
    x.kind(0, 0, 0);
    due.is("thing(-1)", x.thing(-1), -1);
    due.is("thing(2)", x.thing(2), -1);
    due.is("thing(MIN)", x.thing(MIN), -1);
    due.is("thing(MAX)", x.thing(MAX), -1);
    for (int i = 0; i < 12; i++) {
      due.is("thing " + i, x.thing(i % 2), i);
      due.is("its kind", x.thingOf(i, 0), i % 2);
    }
    due.is("a thirteenth thing", x.thing(0), -1);
    due.is("things", x.count(1), 12);
  }

  private static void promise4Member() {
    ToolHouse x = new ToolHouse();
    for (int i = 0; i < 10; i++) {
      due.is("member " + i, x.member(), i);
    }
    due.is("an eleventh member", x.member(), -1);
    due.is("members", x.count(2), 10);
  }

  private static void promise23Count() {
    ToolHouse x = new ToolHouse();
    x.kind(0, 0, 0);
    x.kind(0, 0, 0);
    x.kind(0, 0, 0);
    x.thing(0);
    x.thing(0);
    x.member();
    Due.tell(x, "every 2 17;");
    x.days(4);
    x.ask(0, 0, 0, 4, 5, 0);
    x.ask(0, 0, 0, 4, 5, 0);
    x.ask(0, 0, 0, 4, 5, 0);
    x.ask(0, 0, 0, 4, 5, 0);
    x.off(3);
    Due.feed(x, "abc");
    int[] want = {3, 2, 1, 1, 4, 4, 3};
    for (int what = 0; what < want.length; what++) {
      due.is("count(" + what + ")", x.count(what), want[what]);
    }
    due.is("PENDING", x.count(10), 3);
    due.is("CALLED OFF", x.count(16), 1);
    x.plan();
    due.is("PENDING then", x.count(10), 0);
    due.is("BOOKED", x.count(11), 2);
    due.is("REFUSED", x.count(12), 1);
    x.out(0);
    due.is("BOOKED then", x.count(11), 1);
    due.is("OUT", x.count(13), 1);
    x.back(0);
    due.is("BACK", x.count(14), 1);
    x.days(2);
    due.is("LOST", x.count(15), 1);
    due.is("days of kind 2", x.count(22), 17);
    due.is("days of kind 0", x.count(20), -1);
  }

  private static void promise23CountOfOthers() {
    ToolHouse x = new ToolHouse();
    for (int i = 0; i < 8; i++) {
      x.kind(0, 0, 0);
    }
    Due.tell(x, "every 0 5;every 7 8;");
    due.is("count(20)", x.count(20), 5);
    due.is("count(27)", x.count(27), 8);
    int[] others = {-1, 7, 8, 9, 17, 18, 19, 28, 100, MIN, MAX};
    for (int what : others) {
      due.is("count(" + what + ")", x.count(what), -1);
    }
  }
}
