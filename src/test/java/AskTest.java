/** Promises 11, 12, 13 and 18: asks, the plan of those that are pending, calling off, and buying. */
public final class AskTest {
  private static final int MAX = Integer.MAX_VALUE;
  private static final int MIN = Integer.MIN_VALUE;
  private static final Due due = new Due();

  public static void main(String[] args) {
    promise11Ask();
    promise11Days();
    promise11DaysFromToday();
    promise11FivePending();
    promise11HundredAndTwenty();
    promise12NothingPending();
    promise12Fits();
    promise12FeaturesOfOwnKind();
    promise12RankGoesFirst();
    promise12OneOfRank2AheadOfFourOthers();
    promise12MostOfRank1AheadOfRank0();
    promise12MostAheadOfFewestSubstitutes();
    promise12FiveSubstitutesAheadOfFourOfTheirKind();
    promise12FewestSubstitutes();
    promise12FirstRow();
    promise12NoneBehindAll();
    promise12CareBetween();
    promise12CareOfTheThingsKind();
    promise12FreeOfThoseThatHold();
    promise12PendingWhoseDaysAreOver();
    promise12TwelveThings();
    promise13Off();
    promise13OffFreesTheThing();
    promise18Buy();
    promise18CareAndSubstitutes();
    promise18AllOfTheLog();
    due.finish();
  }

  /** Kinds of one care and no features, a thing of each, and one member. */
  private static ToolHouse houseOf(int kinds, int care) {
    ToolHouse x = new ToolHouse();
    for (int i = 0; i < kinds; i++) {
      x.kind(care, 0, 1);
      x.thing(i);
    }
    x.member();
    return x;
  }

  private static void row(ToolHouse x, int first, int... things) {
    for (int i = 0; i < things.length; i++) {
      due.of(x, first + i, 0, things[i] == -1 ? 2 : 1);
      due.of(x, first + i, 1, things[i]);
    }
  }

  private static void promise11Ask() {
    ToolHouse x = houseOf(2, 0);
    x.member();
    int[][] wrong = {{-1, 0, 0, 0, 0, 0}, {2, 0, 0, 0, 0, 0}, {0, -1, 0, 0, 0, 0}, {0, 2, 0, 0, 0, 0},
        {0, 0, -1, 0, 0, 0}, {0, 0, 256, 0, 0, 0}, {0, 0, 0, 0, 0, -1}, {0, 0, 0, 0, 0, 3},
        {MAX, 0, 0, 0, 0, 0}, {MIN, 0, 0, 0, 0, 0}, {0, MAX, 0, 0, 0, 0}, {0, MIN, 0, 0, 0, 0},
        {0, 0, MAX, 0, 0, 0}, {0, 0, MIN, 0, 0, 0}, {0, 0, 0, 0, 0, MAX}, {0, 0, 0, 0, 0, MIN}};
    for (int[] w : wrong) {
      due.is("ask" + java.util.Arrays.toString(w), x.ask(w[0], w[1], w[2], w[3], w[4], w[5]), -1);
    }
    due.is("asks behind refusals", x.count(5), 0);
    due.is("ask(1, 0, 255, 3, 4, 2)", x.ask(1, 0, 255, 3, 4, 2), 0);
    due.is("ask(0, 1, 0, 0, 0, 0)", x.ask(0, 1, 0, 0, 0, 0), 1);
    int[] want = {0, -1, 0, 1, 0, 3, 4, 2, -1};
    for (int what = 0; what < want.length; what++) {
      due.of(x, 0, what, want[what]);
    }
  }

  private static void promise11Days() {
    ToolHouse x = houseOf(1, 0);
    int[][] wrong = {{-1, 0}, {1, 0}, {0, 15}, {46, 61}, {61, 61}, {60, 61}, {0, MAX}, {MAX, MAX},
        {MIN, MIN}, {MIN, MAX}, {MAX, MIN}, {5, 4}, {MIN, 0}, {MAX, 5}};
    for (int[] w : wrong) {
      due.is("ask from " + w[0] + " to " + w[1], x.ask(0, 0, 0, w[0], w[1], 0), -1);
    }
    int[][] right = {{0, 0}, {0, 14}, {46, 60}, {60, 60}};
    for (int i = 0; i < right.length; i++) {
      due.is("ask from " + right[i][0], x.ask(0, 0, 0, right[i][0], right[i][1], 0), i);
    }
  }

  private static void promise11DaysFromToday() {
    ToolHouse x = houseOf(1, 0);
    x.days(10);
    due.is("first day is over", x.ask(0, 0, 0, 9, 12, 0), -1);
    due.is("61 days ahead", x.ask(0, 0, 0, 60, 71, 0), -1);
    due.is("60 days ahead", x.ask(0, 0, 0, 60, 70, 0), 0);
    due.is("today", x.ask(0, 0, 0, 10, 10, 0), 1);
  }

  private static void promise11FivePending() {
    ToolHouse x = houseOf(1, 0);
    for (int i = 0; i < 5; i++) {
      due.is("ask " + i, x.ask(0, 0, 0, i, i, 0), i);
    }
    due.is("a sixth that is PENDING", x.ask(0, 0, 0, 5, 5, 0), -1);
    x.off(2);
    due.is("behind off", x.ask(0, 0, 0, 5, 5, 0), 5);
    due.is("a sixth again", x.ask(0, 0, 0, 6, 6, 0), -1);
    due.is("plan()", x.plan(), 5);
    due.is("behind plan()", x.ask(0, 0, 0, 6, 6, 0), 6);
  }

  private static void promise11HundredAndTwenty() {
    ToolHouse x = houseOf(1, 0);
    for (int i = 0; i < 120; i++) {
      due.is("ask " + i, x.ask(0, 0, 0, 0, 0, 0), i);
      x.off(i);
    }
    due.is("one more", x.ask(0, 0, 0, 0, 0, 0), -1);
    due.is("asks", x.count(5), 120);
    due.is("CALLED OFF", x.count(16), 120);
  }

  private static void promise12NothingPending() {
    ToolHouse x = houseOf(1, 0);
    due.is("plan() of none", x.plan(), 0);
    x.ask(0, 0, 0, 0, 0, 0);
    due.is("plan() of one", x.plan(), 1);
    due.is("plan() behind it", x.plan(), 0);
    due.of(x, 0, 0, 1);
    ToolHouse y = new ToolHouse();
    y.kind(0, 255, 0);
    y.member();
    y.ask(0, 0, 0, 0, 0, 2);
    due.is("plan() without things", y.plan(), 0);
    row(y, 0, -1);
  }

  private static void promise12Fits() {
    ToolHouse x = new ToolHouse();
    x.kind(0, 1, 0);
    x.kind(0, 6, 0);
    x.kind(0, 7, 0);
    x.thing(1);
    x.thing(2);
    x.member();
    x.ask(0, 0, 0, 0, 0, 0);
    x.ask(0, 0, 8, 0, 0, 0);
    x.ask(0, 0, 7, 0, 0, 0);
    x.ask(0, 0, 5, 1, 1, 0);
    x.ask(0, 0, 6, 2, 2, 0);
    due.is("plan()", x.plan(), 3);
    row(x, 0, -1, -1, 1, 1, 0);
    due.of(x, 0, 8, -1);
    due.of(x, 2, 8, 1);
  }

  private static void promise12FeaturesOfOwnKind() {
    ToolHouse x = houseOf(1, 0);
    x.ask(0, 0, 255, 0, 0, 0);
    due.is("NEEDS that its own KIND hasn't", x.plan(), 1);
    due.of(x, 0, 8, 0);
  }

  private static void promise12RankGoesFirst() {
    ToolHouse x = houseOf(1, 0);
    x.ask(0, 0, 0, 0, 5, 0);
    x.ask(0, 0, 0, 0, 5, 1);
    x.ask(0, 0, 0, 0, 5, 2);
    due.is("plan()", x.plan(), 1);
    row(x, 0, -1, -1, 0);
  }

  private static void promise12OneOfRank2AheadOfFourOthers() {
    ToolHouse x = houseOf(1, 0);
    for (int i = 0; i < 4; i++) {
      x.ask(0, 0, 0, i, i, 1);
    }
    x.ask(0, 0, 0, 0, 9, 2);
    due.is("plan()", x.plan(), 1);
    row(x, 0, -1, -1, -1, -1, 0);
  }

  private static void promise12MostOfRank1AheadOfRank0() {
    ToolHouse x = houseOf(1, 0);
    for (int i = 0; i < 4; i++) {
      x.ask(0, 0, 0, i, i, 0);
    }
    x.ask(0, 0, 0, 0, 9, 1);
    due.is("plan()", x.plan(), 1);
    row(x, 0, -1, -1, -1, -1, 0);
    for (int i = 10; i < 13; i++) {
      x.ask(0, 0, 0, i, i, 0);
    }
    x.ask(0, 0, 0, 10, 12, 0);
    due.is("plan() of one rank", x.plan(), 3);
    row(x, 5, 0, 0, 0, -1);
  }

  private static void promise12MostAheadOfFewestSubstitutes() {
    ToolHouse x = new ToolHouse();
    x.kind(0, 0, 0);
    x.kind(0, 1, 0);
    x.thing(0);
    x.thing(1);
    x.thing(1);
    x.thing(1);
    x.member();
    for (int i = 0; i < 4; i++) {
      x.ask(0, 0, 1, 0, 0, 0);
    }
    due.is("plan()", x.plan(), 4);
    row(x, 0, 0, 1, 2, 3);
  }

  /** Four could have their own things, but only if each goes to the next one's is there one for the fifth. */
  private static void promise12FiveSubstitutesAheadOfFourOfTheirKind() {
    ToolHouse x = new ToolHouse();
    for (int i = 0; i < 5; i++) {
      x.kind(0, 1 << i, 0);
      x.thing(i);
    }
    x.kind(0, 0, 0);
    x.member();
    for (int i = 0; i < 4; i++) {
      x.ask(0, i, 1 << (i + 1), 0, 0, 0);
    }
    x.ask(0, 5, 1, 0, 0, 0);
    due.is("plan()", x.plan(), 5);
    row(x, 0, 1, 2, 3, 4, 0);
  }

  private static void promise12FewestSubstitutes() {
    ToolHouse x = new ToolHouse();
    x.kind(0, 1, 0);
    x.kind(0, 1, 0);
    x.thing(0);
    x.thing(1);
    x.member();
    x.ask(0, 1, 1, 0, 0, 0);
    due.is("plan()", x.plan(), 1);
    row(x, 0, 1);
    x.ask(0, 1, 1, 1, 1, 0);
    x.ask(0, 0, 1, 1, 1, 0);
    due.is("plan() of two", x.plan(), 2);
    row(x, 1, 1, 0);
    due.of(x, 1, 8, 0);
    due.of(x, 2, 8, 0);
  }

  private static void promise12FirstRow() {
    ToolHouse x = new ToolHouse();
    x.kind(0, 0, 0);
    for (int i = 0; i < 4; i++) {
      x.thing(0);
    }
    x.member();
    x.ask(0, 0, 0, 0, 1, 0);
    x.ask(0, 0, 0, 3, 4, 2);
    x.ask(0, 0, 0, 1, 2, 0);
    x.ask(0, 0, 0, 2, 3, 1);
    x.ask(0, 0, 0, 0, 0, 0);
    due.is("plan()", x.plan(), 5);
    row(x, 0, 0, 0, 1, 2, 1);
  }

  private static void promise12NoneBehindAll() {
    ToolHouse x = houseOf(1, 0);
    x.ask(0, 0, 0, 4, 6, 0);
    x.ask(0, 0, 0, 0, 4, 0);
    x.ask(0, 0, 0, 6, 9, 0);
    x.ask(0, 0, 0, 5, 5, 0);
    due.is("plan()", x.plan(), 3);
    row(x, 0, -1, 0, 0, 0);
    x.ask(0, 0, 0, 11, 12, 0);
    x.ask(0, 0, 0, 10, 11, 0);
    due.is("plan() of two alike", x.plan(), 1);
    row(x, 4, 0, -1);
  }

  private static void promise12CareBetween() {
    ToolHouse x = houseOf(1, 2);
    x.ask(0, 0, 0, 5, 6, 1);
    x.ask(0, 0, 0, 8, 8, 0);
    x.ask(0, 0, 0, 9, 9, 0);
    x.ask(0, 0, 0, 3, 3, 0);
    x.ask(0, 0, 0, 2, 2, 0);
    due.is("plan()", x.plan(), 3);
    row(x, 0, 0, -1, 0, -1, 0);
  }

  private static void promise12CareOfTheThingsKind() {
    ToolHouse x = new ToolHouse();
    x.kind(5, 1, 0);
    x.kind(0, 1, 0);
    x.thing(1);
    x.member();
    x.ask(0, 0, 1, 0, 0, 0);
    x.ask(0, 0, 1, 1, 1, 0);
    due.is("plan()", x.plan(), 2);
    row(x, 0, 0, 0);
  }

  private static void promise12FreeOfThoseThatHold() {
    ToolHouse x = houseOf(1, 1);
    x.ask(0, 0, 0, 0, 3, 0);
    x.plan();
    x.ask(0, 0, 0, 4, 4, 2);
    due.is("plan() near one that is BOOKED", x.plan(), 0);
    x.out(0);
    x.ask(0, 0, 0, 4, 4, 2);
    due.is("plan() near one that is OUT", x.plan(), 0);
    x.days(1);
    x.back(0);
    x.ask(0, 0, 0, 2, 2, 2);
    x.ask(0, 0, 0, 3, 3, 0);
    due.is("plan() behind one that came BACK", x.plan(), 1);
    row(x, 3, -1, 0);
  }

  private static void promise12PendingWhoseDaysAreOver() {
    ToolHouse x = houseOf(1, 0);
    x.ask(0, 0, 0, 0, 1, 0);
    x.days(5);
    due.of(x, 0, 0, 0);
    due.is("plan()", x.plan(), 1);
    due.of(x, 0, 0, 1);
    x.days(1);
    due.of(x, 0, 0, 5);
    due.of(x, 0, 1, 0);
  }

  private static void promise12TwelveThings() {
    ToolHouse x = new ToolHouse();
    x.kind(0, 1, 0);
    x.kind(0, 1, 0);
    for (int i = 0; i < 12; i++) {
      x.thing(i < 11 ? 1 : 0);
    }
    x.member();
    for (int i = 0; i < 5; i++) {
      x.ask(0, 0, 1, 0, 14, 2);
    }
    due.is("plan()", x.plan(), 5);
    row(x, 0, 0, 1, 2, 3, 11);
    for (int i = 0; i < 5; i++) {
      x.ask(0, 0, 1, 0, 14, i % 3);
    }
    due.is("plan() again", x.plan(), 5);
    row(x, 5, 4, 5, 6, 7, 8);
    for (int i = 0; i < 5; i++) {
      x.ask(0, 0, 1, 0, 14, i % 3);
    }
    due.is("plan() of what is left", x.plan(), 2);
    row(x, 10, -1, 9, 10, -1, -1);
  }

  private static void promise13Off() {
    ToolHouse x = houseOf(1, 0);
    due.is("off(0) of none", x.off(0), false);
    x.ask(0, 0, 0, 0, 1, 0);
    due.is("off(-1)", x.off(-1), false);
    due.is("off(1)", x.off(1), false);
    due.is("off(MIN)", x.off(MIN), false);
    due.is("off(MAX)", x.off(MAX), false);
    due.is("off of one that is PENDING", x.off(0), true);
    due.of(x, 0, 0, 6);
    due.of(x, 0, 1, -1);
    due.is("off again", x.off(0), false);
    due.is("plan()", x.plan(), 0);
    x.ask(0, 0, 0, 0, 1, 0);
    x.ask(0, 0, 0, 0, 1, 0);
    x.plan();
    due.is("off of one that is REFUSED", x.off(2), false);
    x.out(1);
    due.is("off of one that is OUT", x.off(1), false);
    x.back(1);
    due.is("off of one that came BACK", x.off(1), false);
    x.ask(0, 0, 0, 5, 5, 0);
    x.plan();
    x.days(6);
    due.is("off of one that is LOST", x.off(3), false);
    due.of(x, 3, 0, 5);
  }

  private static void promise13OffFreesTheThing() {
    ToolHouse x = houseOf(1, 0);
    x.ask(0, 0, 0, 3, 5, 0);
    x.plan();
    due.is("isFree", x.isFree(0, 4, 4), 0);
    due.is("off of one that is BOOKED", x.off(0), true);
    due.of(x, 0, 0, 6);
    due.of(x, 0, 1, 0);
    due.of(x, 0, 8, 0);
    due.is("isFree then", x.isFree(0, 4, 4), 1);
    due.is("BOOKED on it", x.thingOf(0, 4), 0);
    due.is("out(0)", x.out(0), -1);
  }

  private static void promise18Buy() {
    ToolHouse x = new ToolHouse();
    x.kind(0, 0, 0);
    x.member();
    due.is("buy(0) of an empty log", x.buy(0), 0);
    due.is("buy(1)", x.buy(1), -1);
    due.is("buy(-1)", x.buy(-1), -1);
    due.is("buy(MIN)", x.buy(MIN), -1);
    due.is("buy(MAX)", x.buy(MAX), -1);
    x.ask(0, 0, 0, 0, 9, 2);
    x.ask(0, 0, 0, 7, 8, 0);
    x.ask(0, 0, 0, 1, 2, 0);
    x.ask(0, 0, 0, 2, 3, 0);
    x.ask(0, 0, 0, 3, 6, 0);
    due.is("buy(0) of what is PENDING", x.buy(0), 0);
    x.plan();
    due.is("buy(0)", x.buy(0), 3);
    due.is("buy(0) again", x.buy(0), 3);
    x.ask(0, 0, 0, 9, 9, 0);
    x.off(5);
    due.is("buy(0) with one CALLED OFF", x.buy(0), 3);
    x.ask(0, 0, 0, 9, 9, 0);
    x.plan();
    due.is("buy(0) with one more", x.buy(0), 4);
    x.thing(0);
    x.ask(0, 0, 0, 9, 9, 0);
    x.plan();
    due.is("buy(0) with one BOOKED", x.buy(0), 4);
    x.days(20);
    due.is("buy(0) with one LOST", x.buy(0), 4);
  }

  private static void promise18CareAndSubstitutes() {
    ToolHouse x = new ToolHouse();
    x.kind(0, 0, 0);
    x.kind(1, 3, 0);
    x.kind(2, 1, 0);
    x.kind(3, 255, 0);
    x.member();
    x.ask(0, 0, 1, 0, 0, 0);
    x.ask(0, 0, 3, 2, 2, 0);
    x.ask(0, 0, 0, 3, 3, 0);
    x.ask(0, 2, 0, 4, 4, 0);
    x.ask(0, 0, 1, 4, 4, 0);
    x.plan();
    due.is("buy(0)", x.buy(0), 4);
    due.is("buy(1)", x.buy(1), 3);
    due.is("buy(2)", x.buy(2), 2);
    due.is("buy(3)", x.buy(3), 2);
  }

  private static void promise18AllOfTheLog() {
    ToolHouse x = new ToolHouse();
    x.kind(0, 0, 0);
    x.member();
    for (int i = 0; i < 120; i++) {
      x.ask(0, 0, 0, 3 * i, 3 * i + 1, i % 3);
      x.plan();
      x.days(3);
    }
    due.is("buy(0) of 120", x.buy(0), 120);
    due.is("REFUSED", x.count(12), 120);
  }
}
