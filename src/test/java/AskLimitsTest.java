/**
 * The sentences of "Terms" 2 and of promises 11 to 13 and 18 that name a limit: a test for each, which quotes it,
 * in the document's order. What a refusal leaves as it was stands in RefusedCallsTest.
 */
public final class AskLimitsTest {
  private static final int MAX = Integer.MAX_VALUE;
  private static final int MIN = Integer.MIN_VALUE;
  private static final Due due = new Due();

  public static void main(String[] args) {
    termsOfAsks();
    termsOfFreeThings();
    termsOfPlans();
    termsOfTheLog();
    promises();
    due.finish();
  }

  private static void termsOfAsks() {
    asksAtMost120();
    askOfNoSuchMember();
    askOfNoSuchKind();
    needsZeroTo255();
    firstDayFromDayOn();
    lastDayTo60Ahead();
    atMostFifteenDays();
    daysInOrder();
    daysThatWouldWrapAround();
    daysAtTheLatestDay();
    rankZeroToTwo();
    needsOfZeroFitNoOtherKind();
    featuresHaveAllNeeds();
    ofItsKindWithoutItsNeeds();
    substituteIfNotOfItsKind();
    pendingAtFirst();
  }

  private static void termsOfFreeThings() {
    nearUpToLastDayAndCare();
    nearFromBothSides();
    nearOfOneDay();
    onlyBookedOutAndBackHoldAThing();
    lastDayOfOneThatIsOut();
    lastDayOfOneThatCameBack();
  }

  private static void termsOfPlans() {
    planOfAllThatArePending();
    planOfOneThingForNearOnes();
    planOfThingsThatAreNotFree();
    mostOfRankTwo();
    thenOfRankOne();
    thenOfRankZero();
    thenFewestSubstitutes();
    thenTheLesserThingAskByAsk();
    noneBehindAll();
  }

  private static void termsOfTheLog() {
    allThatAreRefusedAreKept();
    noOthersAreKept();
    buyWithNoneBooked();
    buyOfThoseItFits();
    buyNearAsOnIt();
    buyTheMost();
  }

  private static void promises() {
    fiveArePending();
    planOfNone();
    planCountsThoseItBooks();
    offOfEachState();
    offOfNoSuchOne();
    buyOfNoSuchKind();
  }

  /** One kind with things of one care and features, and one member. */
  private static ToolHouse houseOf(int things, int care, int features) {
    ToolHouse x = new ToolHouse();
    x.kind(care, features, 1);
    for (int i = 0; i < things; i++) {
      x.thing(0);
    }
    x.member();
    return x;
  }

  private static void book(ToolHouse x, int first, int last) {
    x.ask(0, 0, 0, first, last, 0);
    x.plan();
  }

  private static void row(ToolHouse x, int from, int... things) {
    for (int i = 0; i < things.length; i++) {
      due.of(x, from + i, 0, things[i] == -1 ? 2 : 1);
      due.of(x, from + i, 1, things[i]);
    }
  }

  // "ASKS, at most 120, numbered as they come" (promise 11: "NONE: .. 120 came"); those that are over count, too.
  private static void asksAtMost120() {
    ToolHouse x = houseOf(1, 0, 0);
    for (int i = 0; i < 120; i++) {
      due.is("ask " + i, x.ask(0, 0, 0, 0, 0, 0), i);
      if (i % 5 == 4) x.plan();
    }
    due.is("the 121st ask", x.ask(0, 0, 0, 0, 0, 0), -1);
    due.is("asks", x.count(5), 120);
    due.of(x, 119, 0, 2);
    due.of(x, 120, 0, Due.NO_SUCH_ELEMENT);
    x.off(0);
    due.is("the 121st behind off", x.ask(0, 0, 0, 0, 0, 0), -1);
  }

  // "a MEMBER" (promise 11: "NONE: no such MEMBER")
  private static void askOfNoSuchMember() {
    ToolHouse x = houseOf(1, 0, 0);
    for (int member : new int[] {MIN, -1, 1, 10, MAX}) {
      due.is("ask of member " + member, x.ask(member, 0, 0, 0, 0, 0), -1);
    }
    due.is("asks", x.count(5), 0);
    ToolHouse none = new ToolHouse();
    none.kind(0, 0, 0);
    due.is("ask without members", none.ask(0, 0, 0, 0, 0, 0), -1);
  }

  // "a KIND" (promise 11: "NONE: no such .. KIND")
  private static void askOfNoSuchKind() {
    ToolHouse x = houseOf(1, 0, 0);
    for (int kind : new int[] {MIN, -1, 1, 8, MAX}) {
      due.is("ask of kind " + kind, x.ask(0, kind, 0, 0, 0, 0), -1);
    }
    due.is("asks", x.count(5), 0);
    ToolHouse none = new ToolHouse();
    none.member();
    due.is("ask without kinds", none.ask(0, 0, 0, 0, 0, 0), -1);
  }

  // "NEEDS (bits, 0 to 255)"
  private static void needsZeroTo255() {
    ToolHouse x = houseOf(1, 0, 0);
    for (int needs : new int[] {MIN, -1, 256, 257, MAX}) {
      due.is("ask of NEEDS " + needs, x.ask(0, 0, needs, 0, 0, 0), -1);
    }
    due.is("NEEDS 0", x.ask(0, 0, 0, 0, 0, 0), 0);
    due.is("NEEDS 255", x.ask(0, 0, 255, 0, 0, 0), 1);
  }

  // "a first and a last day (from DAY on"
  private static void firstDayFromDayOn() {
    for (int day : new int[] {0, 1, 60}) {
      ToolHouse x = houseOf(1, 0, 0);
      if (day > 0) x.days(day);
      due.is("from the day ahead of DAY", x.ask(0, 0, 0, day - 1, day, 0), -1);
      due.is("up to the day ahead of DAY", x.ask(0, 0, 0, day - 1, day - 1, 0), -1);
      due.is("from DAY on", x.ask(0, 0, 0, day, day, 0), 0);
    }
  }

  // "to 60 days ahead"
  private static void lastDayTo60Ahead() {
    for (int day : new int[] {0, 1, 60}) {
      ToolHouse x = houseOf(1, 0, 0);
      if (day > 0) x.days(day);
      due.is("61 days ahead", x.ask(0, 0, 0, day + 60, day + 61, 0), -1);
      due.is("61 days ahead alone", x.ask(0, 0, 0, day + 61, day + 61, 0), -1);
      due.is("60 days ahead alone", x.ask(0, 0, 0, day + 60, day + 60, 0), 0);
      due.is("15 days, the last 60 ahead", x.ask(0, 0, 0, day + 46, day + 60, 0), 1);
      due.is("15 days, the last 61 ahead", x.ask(0, 0, 0, day + 47, day + 61, 0), -1);
    }
  }

  // "at most 15 days)"
  private static void atMostFifteenDays() {
    for (int first : new int[] {0, 10, 45}) {
      ToolHouse x = houseOf(1, 0, 0);
      due.is("16 days from " + first, x.ask(0, 0, 0, first, first + 15, 0), -1);
      due.is("15 days from " + first, x.ask(0, 0, 0, first, first + 14, 0), 0);
      due.is("a day from " + first, x.ask(0, 0, 0, first, first, 0), 1);
    }
  }

  /** A last day ahead of the first one is no such number. */
  private static void daysInOrder() {
    ToolHouse x = houseOf(1, 0, 0);
    due.is("from 1 to 0", x.ask(0, 0, 0, 1, 0, 0), -1);
    due.is("from 60 to 59", x.ask(0, 0, 0, 60, 59, 0), -1);
    due.is("from 60 to 0", x.ask(0, 0, 0, 60, 0, 0), -1);
    due.is("from 61 to 60", x.ask(0, 0, 0, 61, 60, 0), -1);
    due.is("asks", x.count(5), 0);
  }

  private static void daysThatWouldWrapAround() {
    ToolHouse x = houseOf(1, 0, 0);
    int[][] wrong = {{MIN, MIN}, {MIN, -1}, {MIN, 0}, {MIN, 60}, {MIN, MAX}, {MAX, MIN}, {MAX, 0}, {MAX, 60},
        {MAX, MAX}, {0, MAX}, {0, MIN}, {60, MIN}, {MAX - 14, MAX}, {-MAX, MAX}, {MIN + 7, 5}};
    for (int[] w : wrong) {
      due.is("from " + w[0] + " to " + w[1], x.ask(0, 0, 0, w[0], w[1], 0), -1);
    }
    due.is("asks", x.count(5), 0);
  }

  private static void daysAtTheLatestDay() {
    ToolHouse x = houseOf(1, 0, 0);
    for (int i = 0; i < 83; i++) {
      x.days(60);
    }
    x.days(20);
    due.is("DAY", x.count(4), 5000);
    due.is("up to 5061", x.ask(0, 0, 0, 5060, 5061, 0), -1);
    due.is("from 4999", x.ask(0, 0, 0, 4999, 5000, 0), -1);
    due.is("up to 5060", x.ask(0, 0, 0, 5046, 5060, 0), 0);
    due.is("on 5000", x.ask(0, 0, 0, 5000, 5000, 0), 1);
    due.is("plan()", x.plan(), 2);
  }

  // "a RANK (0 to 2)"
  private static void rankZeroToTwo() {
    ToolHouse x = houseOf(1, 0, 0);
    for (int rank : new int[] {MIN, -1, 3, MAX}) {
      due.is("RANK " + rank, x.ask(0, 0, 0, 0, 0, rank), -1);
    }
    for (int rank = 0; rank <= 2; rank++) {
      due.is("RANK " + rank, x.ask(0, 0, 0, 0, 0, rank), rank);
      due.of(x, rank, 7, rank);
    }
  }

  // "or (NEEDS are not 0) its KIND's FEATURES have all NEEDS"
  private static void needsOfZeroFitNoOtherKind() {
    ToolHouse x = houseOf(0, 0, 0);
    x.kind(0, 255, 0);
    x.kind(0, 0, 0);
    x.thing(1);
    x.thing(2);
    x.ask(0, 0, 0, 0, 0, 2);
    due.is("plan() of NEEDS 0", x.plan(), 0);
    x.ask(0, 0, 1, 0, 0, 2);
    due.is("plan() of NEEDS 1", x.plan(), 1);
    due.of(x, 1, 1, 0);
  }

  private static void featuresHaveAllNeeds() {
    int[][] cases = {{255, 255, 1}, {254, 255, 0}, {127, 255, 0}, {255, 128, 1}, {127, 128, 0}, {128, 129, 0},
        {129, 129, 1}, {6, 5, 0}, {7, 5, 1}, {0, 1, 0}, {1, 1, 1}, {1, 3, 0}, {3, 1, 1}};
    for (int[] c : cases) {
      ToolHouse x = houseOf(0, 0, 0);
      x.kind(0, c[0], 0);
      x.thing(1);
      x.ask(0, 0, c[1], 0, 0, 0);
      due.is("FEATURES " + c[0] + " for NEEDS " + c[1], x.plan(), c[2]);
      due.of(x, 0, 8, c[2] == 1 ? 1 : -1);
    }
  }

  // "A THING FITS an ASK, if it is of its KIND, or .."
  private static void ofItsKindWithoutItsNeeds() {
    ToolHouse x = houseOf(1, 0, 0);
    x.ask(0, 0, 255, 0, 0, 0);
    due.is("plan()", x.plan(), 1);
    due.of(x, 0, 8, 0);
  }

  // "then it is a SUBSTITUTE, if it isn't of its KIND"
  private static void substituteIfNotOfItsKind() {
    ToolHouse x = houseOf(1, 0, 3);
    x.kind(0, 3, 0);
    x.thing(1);
    x.ask(0, 0, 3, 0, 0, 0);
    x.ask(0, 0, 3, 0, 0, 0);
    due.is("plan()", x.plan(), 2);
    due.of(x, 0, 8, 0);
    due.of(x, 1, 8, 1);
  }

  // "An ASK is PENDING (0) at first"
  private static void pendingAtFirst() {
    ToolHouse x = houseOf(1, 0, 0);
    x.ask(0, 0, 0, 0, 0, 0);
    due.of(x, 0, 0, 0);
    due.of(x, 0, 1, -1);
    due.of(x, 0, 2, 0);
    due.of(x, 0, 8, -1);
    due.is("it holds no thing", x.isFree(0, 0, 0), 1);
    due.is("out of it", x.out(0), -1);
    due.is("back of it", x.back(0), -1);
  }

  // "two are near, unless one of both begins behind the other one's last day and CARE of the THING's KIND"
  private static void nearUpToLastDayAndCare() {
    for (int care = 0; care <= 5; care++) {
      ToolHouse x = houseOf(1, care, 0);
      book(x, 20, 22);
      due.is("behind, CARE " + care, x.isFree(0, 22 + care, 40), 0);
      due.is("behind and a day, CARE " + care, x.isFree(0, 23 + care, 40), 1);
      due.is("ahead, CARE " + care, x.isFree(0, 0, 20 - care), 0);
      due.is("ahead and a day, CARE " + care, x.isFree(0, 0, 19 - care), 1);
      x.ask(0, 0, 0, 22 + care, 22 + care, 2);
      x.ask(0, 0, 0, 20 - care, 20 - care, 2);
      due.is("plan() of near ones, CARE " + care, x.plan(), 0);
      x.ask(0, 0, 0, 23 + care, 23 + care, 2);
      x.ask(0, 0, 0, 19 - care, 19 - care, 2);
      due.is("plan() of others, CARE " + care, x.plan(), 2);
    }
  }

  /** Two of one plan, in either order, with and without a day between them and the care. */
  private static void nearFromBothSides() {
    for (int care = 0; care <= 5; care++) {
      for (int gap = care; gap <= care + 1; gap++) {
        for (int order = 0; order < 2; order++) {
          ToolHouse x = houseOf(1, care, 0);
          int early = order == 0 ? 3 : 5 + gap;
          int late = order == 0 ? 5 + gap : 3;
          x.ask(0, 0, 0, early, early + 2, 0);
          x.ask(0, 0, 0, late, late + 2, 0);
          due.is("CARE " + care + ", begins " + gap + " behind", x.plan(), gap > care ? 2 : 1);
        }
      }
    }
  }

  private static void nearOfOneDay() {
    ToolHouse x = houseOf(1, 0, 0);
    book(x, 5, 5);
    due.is("the day ahead", x.isFree(0, 4, 4), 1);
    due.is("the same day", x.isFree(0, 5, 5), 0);
    due.is("the day behind", x.isFree(0, 6, 6), 1);
    due.is("around it", x.isFree(0, 4, 6), 0);
    due.is("up to it", x.isFree(0, 0, 5), 0);
    due.is("from it on", x.isFree(0, 5, MAX), 0);
  }

  // "no other one that is BOOKED on it, is OUT or came BACK with it is near"
  private static void onlyBookedOutAndBackHoldAThing() {
    ToolHouse x = houseOf(2, 0, 0);
    x.ask(0, 0, 0, 0, 1, 0);
    due.is("PENDING", x.isFree(0, 0, 1), 1);
    x.plan();
    due.is("BOOKED", x.isFree(0, 0, 1), 0);
    due.is("BOOKED on another", x.isFree(1, 0, 1), 1);
    x.out(0);
    due.is("OUT", x.isFree(0, 0, 1), 0);
    x.back(0);
    due.is("BACK", x.isFree(0, 0, 1), 0);
    book(x, 2, 3);
    due.is("BOOKED", x.isFree(0, 2, 3), 0);
    x.off(1);
    due.is("CALLED OFF", x.isFree(0, 2, 3), 1);
    book(x, 1, 2);
    due.of(x, 2, 1, 0);
    x.days(3);
    due.of(x, 2, 0, 5);
    due.is("LOST", x.isFree(0, 3, 3), 1);
    ToolHouse y = houseOf(1, 0, 0);
    book(y, 0, 4);
    book(y, 3, 6);
    due.of(y, 1, 0, 2);
    due.is("REFUSED", y.isFree(0, 5, 6), 1);
  }

  // "The last day of one that is OUT is DAY, if that is behind the told one"
  private static void lastDayOfOneThatIsOut() {
    for (int care = 0; care <= 2; care++) {
      ToolHouse x = houseOf(1, care, 0);
      book(x, 0, 2);
      x.out(0);
      for (int day = 0; day <= 5; day++) {
        int last = Math.max(2, day);
        due.is("OUT on day " + day, x.isFree(0, last + care, last + care), 0);
        due.is("OUT on day " + day + ", behind it", x.isFree(0, last + care + 1, MAX), 1);
        x.days(1);
      }
    }
  }

  // "of one that came BACK the DAY on which it did"
  private static void lastDayOfOneThatCameBack() {
    for (int care = 0; care <= 2; care++) {
      for (int day = 0; day <= 5; day++) {
        ToolHouse x = houseOf(1, care, 0);
        book(x, 0, 2);
        x.out(0);
        if (day > 0) x.days(day);
        x.back(0);
        due.is("BACK on day " + day, x.isFree(0, day + care, day + care), 0);
        due.is("BACK on day " + day + ", behind it", x.isFree(0, day + care + 1, MAX), 1);
        x.ask(0, 0, 0, day + care, day + care, 0);
        due.is("plan() of a near one", x.plan(), 0);
        x.ask(0, 0, 0, day + care + 1, day + care + 1, 0);
        due.is("plan() of one behind", x.plan(), 1);
      }
    }
  }

  // "A PLAN of all that are PENDING (at most 5 at one time)"
  private static void planOfAllThatArePending() {
    for (int pending = 1; pending <= 5; pending++) {
      ToolHouse x = houseOf(6, 0, 0);
      for (int i = 0; i < pending; i++) {
        x.ask(0, 0, 0, 0, 0, 0);
      }
      due.is("plan() of " + pending, x.plan(), pending);
      for (int i = 0; i < pending; i++) {
        row(x, i, i);
      }
      due.is("PENDING then", x.count(10), 0);
    }
  }

  // "those that get one THING are not near one another, either"
  private static void planOfOneThingForNearOnes() {
    ToolHouse x = houseOf(1, 1, 0);
    for (int i = 0; i < 5; i++) {
      x.ask(0, 0, 0, i, i, 0);
    }
    due.is("plan()", x.plan(), 3);
    row(x, 0, 0, -1, 0, -1, 0);
  }

  // "each gets a THING that FITS and is FREE for it, or none"
  private static void planOfThingsThatAreNotFree() {
    ToolHouse x = houseOf(2, 0, 0);
    book(x, 3, 3);
    x.ask(0, 0, 0, 3, 3, 0);
    x.ask(0, 0, 0, 3, 3, 0);
    x.ask(0, 0, 0, 2, 4, 0);
    x.ask(0, 0, 0, 4, 4, 0);
    due.is("plan()", x.plan(), 2);
    row(x, 1, 1, -1, -1, 0);
    ToolHouse none = houseOf(0, 0, 0);
    none.ask(0, 0, 0, 0, 0, 2);
    due.is("plan() without things", none.plan(), 0);
    row(none, 0, -1);
  }

  // "that which keeps the most of RANK 2": one of them is ahead of four of RANK 1
  private static void mostOfRankTwo() {
    ToolHouse x = houseOf(1, 0, 0);
    for (int i = 0; i < 4; i++) {
      x.ask(0, 0, 0, i, i, 1);
    }
    x.ask(0, 0, 0, 0, 3, 2);
    due.is("plan()", x.plan(), 1);
    row(x, 0, -1, -1, -1, -1, 0);
  }

  // "of these the most of RANK 1": one of them is ahead of four of RANK 0
  private static void thenOfRankOne() {
    ToolHouse x = houseOf(1, 0, 0);
    for (int i = 0; i < 4; i++) {
      x.ask(0, 0, 0, i, i, 0);
    }
    x.ask(0, 0, 0, 0, 3, 1);
    due.is("plan()", x.plan(), 1);
    row(x, 0, -1, -1, -1, -1, 0);
    ToolHouse y = houseOf(1, 0, 0);
    y.ask(0, 0, 0, 0, 0, 2);
    y.ask(0, 0, 0, 0, 3, 2);
    y.ask(0, 0, 0, 1, 1, 1);
    y.ask(0, 0, 0, 2, 2, 0);
    due.is("plan() with either of RANK 2", y.plan(), 3);
    row(y, 0, 0, -1, 0, 0);
  }

  // "then of RANK 0"; "then the fewest SUBSTITUTES": five substitutes that are kept are ahead of four of their kind
  private static void thenOfRankZero() {
    ToolHouse x = new ToolHouse();
    for (int i = 0; i < 5; i++) {
      x.kind(0, 1 << i, 0);
      x.thing(i);
    }
    x.kind(0, 0, 0);
    x.member();
    for (int i = 0; i < 4; i++) {
      x.ask(0, i, 1 << (i + 1), 0, 0, 0);
    }
    x.ask(0, 5, 1, 0, 0, 0);
    due.is("plan()", x.plan(), 5);
    row(x, 0, 1, 2, 3, 4, 0);
  }

  /** One substitute less is ahead of the lesser things for all. */
  private static void thenFewestSubstitutes() {
    ToolHouse x = houseOf(0, 0, 0);
    x.kind(0, 1, 0);
    for (int i = 0; i < 11; i++) {
      x.thing(1);
    }
    x.thing(0);
    for (int i = 0; i < 5; i++) {
      x.ask(0, 0, 1, 0, 0, 0);
    }
    due.is("plan()", x.plan(), 5);
    row(x, 0, 0, 1, 2, 3, 11);
    due.of(x, 4, 8, 0);
    due.of(x, 3, 8, 1);
  }

  // "then the first row, ASK by ASK, the lesser THING first"
  private static void thenTheLesserThingAskByAsk() {
    ToolHouse x = houseOf(12, 0, 0);
    x.ask(0, 0, 0, 0, 0, 0);
    x.ask(0, 0, 0, 0, 1, 0);
    x.ask(0, 0, 0, 1, 1, 0);
    x.ask(0, 0, 0, 1, 1, 2);
    x.ask(0, 0, 0, 0, 0, 2);
    due.is("plan()", x.plan(), 5);
    row(x, 0, 0, 1, 0, 2, 2);
  }

  // "none behind all": the first ask gets even the twelfth thing, rather than the second one a lesser
  private static void noneBehindAll() {
    ToolHouse x = houseOf(0, 0, 0);
    x.kind(0, 1, 0);
    for (int i = 0; i < 11; i++) {
      x.thing(1);
    }
    x.thing(0);
    x.ask(0, 0, 0, 0, 0, 0);
    x.ask(0, 0, 0, 0, 0, 0);
    due.is("plan()", x.plan(), 1);
    row(x, 0, 11, -1);
    ToolHouse y = houseOf(1, 0, 0);
    for (int i = 0; i < 5; i++) {
      y.ask(0, 0, 0, 0, 0, 1);
    }
    due.is("plan() of five alike", y.plan(), 1);
    row(y, 0, 0, -1, -1, -1, -1);
  }

  // "Each ASK that is REFUSED is kept in a LOG (all are)."
  private static void allThatAreRefusedAreKept() {
    ToolHouse x = houseOf(0, 0, 0);
    due.is("buy(0) of an empty LOG", x.buy(0), 0);
    for (int i = 0; i < 120; i++) {
      x.ask(0, 0, 0, i, i, 0);
      if (i % 5 == 4) x.plan();
      if (i == 59) x.days(60);
    }
    due.is("REFUSED", x.count(12), 120);
    due.is("buy(0)", x.buy(0), 120);
  }

  private static void noOthersAreKept() {
    ToolHouse x = houseOf(1, 0, 0);
    x.ask(0, 0, 0, 0, 0, 0);
    x.ask(0, 0, 0, 1, 1, 0);
    x.ask(0, 0, 0, 2, 2, 0);
    x.ask(0, 0, 0, 3, 3, 0);
    x.off(3);
    due.is("buy(0) of PENDING and CALLED OFF", x.buy(0), 0);
    x.plan();
    x.out(0);
    due.is("buy(0) of BOOKED and OUT", x.buy(0), 0);
    x.days(3);
    due.of(x, 1, 0, 5);
    due.of(x, 2, 0, 5);
    due.is("buy(0) of LOST", x.buy(0), 0);
    x.back(0);
    due.is("buy(0) of BACK", x.buy(0), 0);
  }

  // "if there were one THING more of it, with none BOOKED"
  private static void buyWithNoneBooked() {
    ToolHouse x = houseOf(1, 5, 0);
    book(x, 0, 14);
    x.ask(0, 0, 0, 3, 4, 0);
    x.plan();
    due.of(x, 1, 0, 2);
    due.is("buy(0) beside one that is BOOKED", x.buy(0), 1);
    x.out(0);
    due.is("buy(0) beside one that is OUT", x.buy(0), 1);
    due.is("things", x.count(1), 1);
    due.is("buy(0) again", x.buy(0), 1);
  }

  // "the most ASKS of the LOG that it FITS"
  private static void buyOfThoseItFits() {
    ToolHouse x = houseOf(0, 0, 0);
    x.kind(0, 255, 0);
    x.kind(0, 127, 0);
    x.ask(0, 0, 0, 0, 0, 0);
    x.ask(0, 0, 255, 1, 1, 0);
    x.ask(0, 0, 127, 2, 2, 0);
    x.ask(0, 2, 0, 3, 3, 0);
    x.plan();
    due.is("buy(0): its own", x.buy(0), 3);
    due.is("buy(1): NEEDS of 255 and 127", x.buy(1), 2);
    due.is("buy(2): NEEDS of 127 and its own", x.buy(2), 2);
  }

  // "of which no two are near (as on it)"
  private static void buyNearAsOnIt() {
    for (int care = 0; care <= 5; care++) {
      for (int gap = care; gap <= care + 1; gap++) {
        ToolHouse x = houseOf(0, 5 - care, 0);
        x.kind(care, 1, 0);
        x.ask(0, 0, 1, 2 + gap, 9 + gap, 0);
        x.ask(0, 0, 1, 0, 2, 0);
        x.plan();
        due.is("buy(1) of CARE " + care + ", begins " + gap + " behind", x.buy(1), gap > care ? 2 : 1);
      }
    }
  }

  /** The one that ends first, the one that begins first and the shortest are each at times not the best. */
  private static void buyTheMost() {
    int[][][] logs = {{{0, 9}, {1, 2}, {3, 4}, {5, 6}}, {{0, 4}, {4, 5}, {5, 9}}, {{0, 0}, {0, 14}, {1, 1}, {14, 14}},
        {{5, 5}, {5, 5}, {5, 5}}, {{3, 7}, {0, 3}, {7, 9}}, {{2, 9}, {3, 4}, {5, 6}, {0, 9}},
        {{4, 4}, {1, 8}, {5, 5}, {0, 14}, {6, 6}}};
    int[] most = {3, 2, 3, 1, 2, 2, 3};
    for (int i = 0; i < logs.length; i++) {
      ToolHouse x = houseOf(0, 0, 0);
      for (int[] days : logs[i]) {
        x.ask(0, 0, 0, days[0], days[1], 0);
      }
      x.plan();
      due.is("buy(0) of log " + i, x.buy(0), most[i]);
    }
  }

  // Promise 11: "NONE: .. five are PENDING"
  private static void fiveArePending() {
    ToolHouse x = houseOf(1, 0, 0);
    for (int i = 0; i < 5; i++) {
      due.is("ask " + i, x.ask(0, 0, 0, i, i, 0), i);
    }
    due.is("a sixth", x.ask(0, 0, 0, 9, 9, 0), -1);
    due.is("asks", x.count(5), 5);
    x.off(4);
    due.is("a fifth behind off", x.ask(0, 0, 0, 9, 9, 0), 5);
    due.is("a sixth behind off", x.ask(0, 0, 0, 9, 9, 0), -1);
    x.days(20);
    due.is("a sixth when their days are over", x.ask(0, 0, 0, 29, 29, 0), -1);
    x.plan();
    due.is("one behind plan()", x.ask(0, 0, 0, 29, 29, 0), 6);
  }

  // Promise 12, with nothing that is PENDING
  private static void planOfNone() {
    due.is("plan() of a new object", new ToolHouse().plan(), 0);
    ToolHouse x = houseOf(1, 0, 0);
    book(x, 0, 0);
    due.is("plan() of one that is BOOKED", x.plan(), 0);
    due.of(x, 0, 0, 1);
    x.ask(0, 0, 0, 1, 1, 0);
    x.off(1);
    due.is("plan() of one that is CALLED OFF", x.plan(), 0);
    due.of(x, 1, 0, 6);
  }

  // Promise 12: "how many are BOOKED by it"
  private static void planCountsThoseItBooks() {
    ToolHouse x = houseOf(1, 0, 0);
    x.ask(0, 0, 0, 0, 0, 0);
    x.ask(0, 0, 0, 1, 1, 0);
    x.ask(0, 0, 0, 1, 1, 0);
    due.is("plan()", x.plan(), 2);
    x.ask(0, 0, 0, 2, 2, 0);
    due.is("plan() with two BOOKED ahead", x.plan(), 1);
    due.is("BOOKED", x.count(11), 3);
    due.is("REFUSED", x.count(12), 1);
  }

  // Promise 13: "An ASK that is PENDING or BOOKED is CALLED OFF. False: no such one."
  private static void offOfEachState() {
    ToolHouse x = houseOf(1, 0, 0);
    x.ask(0, 0, 0, 0, 0, 0);
    due.is("off of PENDING", x.off(0), true);
    due.of(x, 0, 0, 6);
    due.is("off of CALLED OFF", x.off(0), false);
    x.ask(0, 0, 0, 0, 0, 0);
    x.ask(0, 0, 0, 0, 0, 0);
    x.ask(0, 0, 0, 1, 1, 0);
    x.ask(0, 0, 0, 2, 2, 0);
    x.plan();
    due.is("off of BOOKED", x.off(4), true);
    due.of(x, 4, 0, 6);
    due.is("off of REFUSED", x.off(2), false);
    due.of(x, 2, 0, 2);
    x.out(1);
    due.is("off of OUT", x.off(1), false);
    due.of(x, 1, 0, 3);
    x.back(1);
    due.is("off of BACK", x.off(1), false);
    due.of(x, 1, 0, 4);
    x.days(2);
    due.is("off of LOST", x.off(3), false);
    due.of(x, 3, 0, 5);
  }

  private static void offOfNoSuchOne() {
    ToolHouse x = houseOf(1, 0, 0);
    due.is("off(0) of none", x.off(0), false);
    x.ask(0, 0, 0, 0, 0, 0);
    for (int ask : new int[] {MIN, -1, 1, 120, MAX}) {
      due.is("off(" + ask + ")", x.off(ask), false);
    }
    due.of(x, 0, 0, 0);
  }

  // Promise 18: "NONE: no such one"
  private static void buyOfNoSuchKind() {
    due.is("buy(0) of a new object", new ToolHouse().buy(0), -1);
    ToolHouse x = houseOf(1, 0, 0);
    for (int kind : new int[] {MIN, -1, 1, 8, MAX}) {
      due.is("buy(" + kind + ")", x.buy(kind), -1);
    }
    due.is("buy(0)", x.buy(0), 0);
  }
}
