/** Promises 14 to 17: going out, coming back, hours worked, and how days begin. */
public final class LoanTest {
  private static final int MAX = Integer.MAX_VALUE;
  private static final int MIN = Integer.MIN_VALUE;
  private static final Due due = new Due();

  public static void main(String[] args) {
    promise14Out();
    promise14HoursOwed();
    promise14Law();
    promise14LawBehindHours();
    promise14OutBehindCare();
    promise14BehindItsLastDay();
    promise14BehindItsLastDayLawAndHours();
    promise14ThingIsOut();
    promise14ThingIsOutWithAnotherOfLaterDays();
    promise14Care();
    promise14CareBehindLaw();
    promise15Back();
    promise15Fees();
    promise15FeeOfASubstitute();
    promise16Work();
    promise17Days();
    promise17LatestDay();
    promise17LostWhenOver();
    promise17MovedWhenNear();
    promise17CareOfALateThing();
    promise17ByRankThenNumber();
    promise17ByFirstDayAheadOfNumber();
    promise17ByRankAheadOfFirstDay();
    promise17NotToALateThing();
    promise17FirstOtherThingThatFits();
    promise17LostThenFreesForMoved();
    promise17MovedTwice();
    promise17MovedFromOneThatWentOutBehindItsLastDay();
    promise17EachDayBegins();
    due.finish();
  }

  private static ToolHouse houseOf(int things, int care, int fee) {
    ToolHouse x = new ToolHouse();
    x.kind(care, 0, fee);
    for (int i = 0; i < things; i++) {
      x.thing(0);
    }
    x.member();
    return x;
  }

  private static void book(ToolHouse x, int first, int last, int rank) {
    x.ask(0, 0, 0, first, last, rank);
    x.plan();
  }

  private static void promise14Out() {
    ToolHouse x = houseOf(1, 0, 1);
    x.ask(0, 0, 0, 2, 4, 0);
    due.is("out of one that is PENDING", x.out(0), -1);
    x.plan();
    due.is("out(0) ahead of its first day", x.out(0), -2);
    due.is("out(1)", x.out(1), -1);
    due.is("out(-1)", x.out(-1), -1);
    due.is("out(MIN)", x.out(MIN), -1);
    due.is("out(MAX)", x.out(MAX), -1);
    x.days(2);
    x.ask(0, 0, 0, 3, 3, 0);
    x.plan();
    due.is("out of one that is REFUSED", x.out(1), -1);
    x.days(2);
    due.is("out(0) on its last day", x.out(0), 0);
    due.of(x, 0, 0, 3);
    due.of(x, 0, 1, 0);
    due.is("thing's ask", x.thingOf(0, 2), 0);
    due.is("member's asks", x.memberOf(0, 2), 1);
    due.is("out(0) again", x.out(0), -1);
    x.back(0);
    due.is("out of one that came BACK", x.out(0), -1);
    x.ask(0, 0, 0, 9, 9, 0);
    x.plan();
    x.off(2);
    x.days(5);
    due.is("out of one that is CALLED OFF", x.out(2), -1);
  }

  private static void promise14HoursOwed() {
    ToolHouse x = houseOf(2, 0, 0);
    book(x, 0, 13, 0);
    x.out(0);
    x.days(26);
    x.back(0);
    due.is("HOURS", x.memberOf(0, 0), 40);
    book(x, 26, 27, 0);
    due.is("out(1) with 40 HOURS", x.out(1), 0);
    x.back(1);
    due.is("HOURS then", x.memberOf(0, 0), 42);
    book(x, 27, 28, 0);
    due.is("out(2) ahead of its day", x.out(2), -2);
    x.days(1);
    due.is("out(2) with 42 HOURS", x.out(2), -3);
    due.of(x, 2, 0, 1);
    x.work(0, 1);
    due.is("out(2) with 41 HOURS", x.out(2), -3);
    x.work(0, 1);
    due.is("out(2) with 40 HOURS", x.out(2), 0);
  }

  private static void promise14Law() {
    ToolHouse x = houseOf(1, 0, 0);
    Due.tell(x, "every 0 5;");
    book(x, 2, 6, 0);
    due.is("out(0) ahead of its day", x.out(0), -2);
    x.days(2);
    due.is("out(0) without a look", x.out(0), -5);
    due.of(x, 0, 0, 1);
    x.look(0);
    due.is("out(0) with a look", x.out(0), 0);
    x.back(0);
    book(x, 8, 8, 0);
    book(x, 9, 9, 0);
    x.days(6);
    due.is("out(1) with a look 6 days ahead", x.out(1), -5);
    Due.tell(x, "every 0 6;");
    due.is("out(1) under another law", x.out(1), 0);
    x.back(1);
    x.days(1);
    due.is("out(2) with a look 7 days ahead", x.out(2), -5);
    Due.tell(x, "");
    due.is("out(2) under an empty law", x.out(2), 0);
  }

  private static void promise14LawBehindHours() {
    ToolHouse x = houseOf(1, 0, 0);
    book(x, 0, 0, 0);
    x.out(0);
    x.days(30);
    x.back(0);
    Due.tell(x, "every 0 0;");
    book(x, 31, 31, 0);
    x.days(1);
    due.is("HOURS ahead of the LAW", x.out(1), -3);
    x.work(0, 100);
    due.is("the LAW then", x.out(1), -5);
  }

  private static void promise14OutBehindCare() {
    ToolHouse x = houseOf(1, 2, 0);
    book(x, 0, 5, 0);
    x.out(0);
    x.days(1);
    x.back(0);
    book(x, 3, 3, 0);
    due.of(x, 1, 0, 2);
    book(x, 4, 4, 0);
    due.of(x, 2, 0, 1);
    x.days(3);
    due.is("out(2) behind BACK and CARE", x.out(2), 0);
  }

  /** An ask that is planned only when its days are over is BOOKED until the next day begins, and goes OUT. */
  private static void promise14BehindItsLastDay() {
    ToolHouse x = houseOf(1, 1, 10);
    x.ask(0, 0, 0, 0, 1, 0);
    x.days(5);
    due.is("plan() behind its last day", x.plan(), 1);
    due.is("isFree(0, 5, 5) of one that is BOOKED", x.isFree(0, 5, 5), 1);
    due.is("out(0) behind its last day", x.out(0), 0);
    due.of(x, 0, 0, 3);
    due.is("thing's ask", x.thingOf(0, 2), 0);
    due.is("LATE at once", x.thingOf(0, 3), 1);
    due.is("BOOKED on it", x.thingOf(0, 4), 0);
    due.is("member's asks", x.memberOf(0, 2), 1);
    due.is("look(0)", x.look(0), false);
    due.is("isFree(0, 6, 6)", x.isFree(0, 6, 6), 0);
    due.is("isFree(0, 7, 7)", x.isFree(0, 7, 7), 1);
    due.is("off(0)", x.off(0), false);
    x.days(1);
    due.of(x, 0, 0, 3);
    due.is("isFree(0, 7, 7) a day later", x.isFree(0, 7, 7), 0);
    due.is("back(0)", x.back(0), 5);
    due.is("HOURS", x.memberOf(0, 0), 12);
    due.is("FEES", x.memberOf(0, 1), 120);
  }

  private static void promise14BehindItsLastDayLawAndHours() {
    ToolHouse x = houseOf(2, 0, 0);
    book(x, 0, 0, 0);
    x.out(0);
    x.days(25);
    x.back(0);
    x.ask(0, 0, 0, 25, 25, 0);
    x.days(1);
    Due.tell(x, "every 0 0;");
    x.plan();
    due.is("51 HOURS", x.out(1), -3);
    x.work(0, 11);
    due.is("the LAW without a look", x.out(1), -5);
    due.of(x, 1, 0, 1);
    due.of(x, 1, 1, 1);
    x.look(1);
    due.is("a look behind the last day", x.out(1), 0);
    x.back(1);
    x.work(0, 100);
    x.ask(0, 0, 0, 30, 31, 0);
    x.look(0);
    x.days(6);
    x.plan();
    due.of(x, 2, 1, 0);
    due.is("a look 5 days ahead of the last day", x.out(2), -5);
    Due.tell(x, "every 0 5;");
    due.is("a look 5 days ahead, 5 wanted", x.out(2), 0);
  }

  private static void promise14ThingIsOut() {
    ToolHouse x = houseOf(1, 0, 0);
    x.member();
    x.ask(1, 0, 0, 0, 0, 0);
    x.days(1);
    x.ask(0, 0, 0, 1, 3, 0);
    x.ask(0, 0, 0, 4, 4, 0);
    due.is("plan()", x.plan(), 3);
    due.is("out(0) behind its last day", x.out(0), 0);
    due.is("out(1) of a THING that is OUT", x.out(1), -4);
    due.is("out(2) ahead of its first day", x.out(2), -2);
    due.of(x, 1, 0, 1);
    due.is("thing's ask", x.thingOf(0, 2), 0);
    Due.tell(x, "every 0 0;");
    due.is("OUT ahead of the LAW", x.out(1), -4);
    due.is("member's asks", x.memberOf(0, 2), 0);
    ToolHouse y = houseOf(2, 0, 0);
    book(y, 0, 14, 0);
    y.ask(0, 0, 0, 0, 0, 0);
    y.out(0);
    y.days(30);
    y.ask(0, 0, 0, 30, 30, 0);
    y.plan();
    due.of(y, 1, 1, 1);
    due.of(y, 2, 1, 1);
    y.back(0);
    y.out(1);
    due.is("HOURS ahead of OUT", y.out(2), -3);
  }

  /** The one that is OUT has the later days here: the late one was planned ahead of it. */
  private static void promise14ThingIsOutWithAnotherOfLaterDays() {
    ToolHouse x = houseOf(1, 0, 0);
    x.ask(0, 0, 0, 0, 0, 0);
    x.days(1);
    x.ask(0, 0, 0, 1, 3, 0);
    due.is("plan()", x.plan(), 2);
    due.is("out(1)", x.out(1), 0);
    due.is("out(0) of a THING that is OUT", x.out(0), -4);
    due.of(x, 0, 0, 1);
    x.days(1);
    due.of(x, 0, 0, 5);
    due.of(x, 1, 0, 3);
  }

  private static void promise14Care() {
    for (int care = 0; care <= 5; care++) {
      ToolHouse x = houseOf(1, care, 0);
      int day = care + 1;
      x.ask(0, 0, 0, 0, 0, 0);
      x.ask(0, 0, 0, day, day + 9, 0);
      x.days(day);
      due.is("plan() with CARE " + care, x.plan(), 2);
      x.out(0);
      due.is("back(0)", x.back(0), day);
      for (int i = 0; i <= care; i++) {
        due.is("out(1) " + i + " days behind BACK, CARE " + care, x.out(1), -6);
        due.of(x, 1, 0, 1);
        x.days(1);
      }
      due.is("out(1) behind CARE " + care, x.out(1), 0);
    }
  }

  private static void promise14CareBehindLaw() {
    ToolHouse x = houseOf(1, 0, 0);
    x.ask(0, 0, 0, 0, 0, 0);
    x.ask(0, 0, 0, 1, 1, 0);
    x.days(1);
    x.plan();
    x.out(0);
    x.back(0);
    Due.tell(x, "every 0 0;");
    due.is("the LAW ahead of CARE", x.out(1), -5);
    x.look(0);
    due.is("CARE then", x.out(1), -6);
    x.days(1);
    due.of(x, 1, 0, 5);
  }

  private static void promise15Back() {
    ToolHouse x = houseOf(2, 0, 3);
    x.ask(0, 0, 0, 0, 3, 0);
    due.is("back of one that is PENDING", x.back(0), -1);
    x.plan();
    due.is("back of one that is BOOKED", x.back(0), -1);
    x.out(0);
    due.is("back(1)", x.back(1), -1);
    due.is("back(-1)", x.back(-1), -1);
    due.is("back(MIN)", x.back(MIN), -1);
    due.is("back(MAX)", x.back(MAX), -1);
    due.is("back(0) ahead of its last day", x.back(0), 0);
    due.of(x, 0, 0, 4);
    due.of(x, 0, 1, 0);
    due.is("back(0) again", x.back(0), -1);
    due.is("HOURS of all told days", x.memberOf(0, 0), 4);
    due.is("FEES of all told days", x.memberOf(0, 1), 12);
    due.is("member's asks", x.memberOf(0, 2), 0);
    due.is("thing's ask", x.thingOf(0, 2), -1);
    book(x, 1, 2, 0);
    x.days(1);
    x.out(1);
    x.days(1);
    due.is("back(1) on its last day", x.back(1), 0);
    due.is("HOURS", x.memberOf(0, 0), 6);
    book(x, 3, 3, 0);
    x.days(1);
    x.out(2);
    x.days(4);
    due.is("back(2) 4 days behind", x.back(2), 4);
    due.is("HOURS", x.memberOf(0, 0), 15);
    due.is("FEES", x.memberOf(0, 1), 45);
  }

  private static void promise15Fees() {
    ToolHouse x = houseOf(1, 0, 100);
    x.member();
    x.ask(1, 0, 0, 0, 0, 0);
    x.plan();
    x.out(0);
    for (int i = 0; i < 83; i++) {
      x.days(60);
    }
    due.is("back(0)", x.back(0), 4980);
    due.is("HOURS", x.memberOf(1, 0), 9961);
    due.is("FEES", x.memberOf(1, 1), 996100);
    due.is("the other's HOURS", x.memberOf(0, 0), 0);
    due.is("work(1, 100)", x.work(1, 100), 9861);
    due.is("FEES behind work", x.memberOf(1, 1), 996100);
  }

  private static void promise15FeeOfASubstitute() {
    ToolHouse x = new ToolHouse();
    x.kind(0, 1, 10);
    x.kind(0, 1, 7);
    x.thing(1);
    x.member();
    x.ask(0, 0, 1, 0, 1, 0);
    x.plan();
    x.out(0);
    x.back(0);
    due.is("FEES of the THING's KIND", x.memberOf(0, 1), 14);
  }

  private static void promise16Work() {
    ToolHouse x = houseOf(1, 0, 0);
    due.is("work(0, 1) with none owed", x.work(0, 1), 0);
    due.is("work(0, 100)", x.work(0, 100), 0);
    book(x, 0, 9, 0);
    x.out(0);
    x.back(0);
    int[] wrong = {0, -1, 101, MIN, MAX};
    for (int hours : wrong) {
      due.is("work(0, " + hours + ")", x.work(0, hours), -1);
    }
    due.is("work(1, 5)", x.work(1, 5), -1);
    due.is("work(-1, 5)", x.work(-1, 5), -1);
    due.is("work(MAX, 5)", x.work(MAX, 5), -1);
    due.is("work(MIN, 5)", x.work(MIN, 5), -1);
    due.is("HOURS", x.memberOf(0, 0), 10);
    due.is("work(0, 4)", x.work(0, 4), 6);
    due.is("HOURS", x.memberOf(0, 0), 6);
    due.is("work(0, 6)", x.work(0, 6), 0);
    due.is("HOURS", x.memberOf(0, 0), 0);
  }

  private static void promise17Days() {
    ToolHouse x = new ToolHouse();
    int[] wrong = {0, -1, 61, MIN, MAX};
    for (int n : wrong) {
      due.is("days(" + n + ")", x.days(n), -1);
    }
    due.is("DAY", x.count(4), 0);
    due.is("days(1)", x.days(1), 1);
    due.is("days(60)", x.days(60), 61);
    due.is("DAY", x.count(4), 61);
  }

  private static void promise17LatestDay() {
    ToolHouse x = houseOf(1, 5, 0);
    for (int i = 1; i <= 83; i++) {
      x.days(60);
    }
    due.is("DAY", x.count(4), 4980);
    due.is("days(21)", x.days(21), -1);
    due.is("DAY", x.count(4), 4980);
    due.is("days(20)", x.days(20), 5000);
    due.is("days(1)", x.days(1), -1);
    due.is("ask of day 5060", x.ask(0, 0, 0, 5060, 5060, 0), 0);
    due.is("plan()", x.plan(), 1);
  }

  private static void promise17LostWhenOver() {
    ToolHouse x = houseOf(1, 0, 0);
    book(x, 1, 3, 0);
    x.days(3);
    due.of(x, 0, 0, 1);
    x.days(1);
    due.of(x, 0, 0, 5);
    due.of(x, 0, 1, 0);
    due.of(x, 0, 2, 0);
    due.is("BOOKED on it", x.thingOf(0, 4), 0);
    due.is("out(0)", x.out(0), -1);
    due.is("isFree", x.isFree(0, 4, 4), 1);
  }

  private static void promise17MovedWhenNear() {
    ToolHouse x = houseOf(2, 0, 0);
    book(x, 0, 1, 0);
    book(x, 3, 4, 0);
    x.out(0);
    x.days(1);
    due.is("LATE on its last day", x.thingOf(0, 3), 0);
    x.days(1);
    due.is("LATE behind it", x.thingOf(0, 3), 1);
    due.of(x, 1, 1, 0);
    due.of(x, 1, 2, 0);
    x.days(1);
    due.of(x, 1, 1, 1);
    due.of(x, 1, 2, 1);
    due.of(x, 1, 0, 1);
    due.is("BOOKED on thing 0", x.thingOf(0, 4), 0);
    due.is("BOOKED on thing 1", x.thingOf(1, 4), 1);
    due.is("out(1)", x.out(1), 0);
  }

  private static void promise17CareOfALateThing() {
    ToolHouse x = houseOf(1, 2, 0);
    book(x, 0, 1, 0);
    book(x, 5, 5, 0);
    x.out(0);
    x.days(2);
    due.of(x, 1, 0, 1);
    x.days(1);
    due.of(x, 1, 0, 5);
    due.of(x, 1, 2, 0);
  }

  private static void promise17ByRankThenNumber() {
    int[] ranks = {0, 1, 0, 1, 2};
    ToolHouse x = houseOf(8, 5, 0);
    for (int i = 0; i < 5; i++) {
      x.ask(0, 0, 0, 0, 0, 0);
    }
    x.plan();
    for (int i = 0; i < 5; i++) {
      x.out(i);
      x.ask(0, 0, 0, 6, 8, ranks[i]);
    }
    x.plan();
    for (int i = 0; i < 5; i++) {
      due.of(x, 5 + i, 1, i);
    }
    x.days(1);
    due.of(x, 5, 0, 5);
    due.of(x, 6, 1, 6);
    due.of(x, 7, 0, 5);
    due.of(x, 8, 1, 7);
    due.of(x, 9, 1, 5);
  }

  /** Two late things of unlike care, so that bookings of unlike first days must move on one day. */
  private static ToolHouse houseOfTwoThatMove(int rankOfFirst, int rankOfSecond) {
    ToolHouse x = new ToolHouse();
    x.kind(3, 1, 0);
    x.kind(0, 1, 0);
    x.kind(0, 1, 0);
    x.thing(0);
    x.thing(1);
    x.thing(2);
    x.member();
    x.ask(0, 0, 0, 0, 0, 0);
    x.ask(0, 1, 0, 0, 0, 0);
    x.plan();
    x.out(0);
    x.out(1);
    x.ask(0, 0, 1, 4, 5, rankOfFirst);
    x.ask(0, 1, 1, 1, 6, rankOfSecond);
    x.plan();
    due.of(x, 2, 1, 0);
    due.of(x, 3, 1, 1);
    x.days(1);
    return x;
  }

  private static void promise17ByFirstDayAheadOfNumber() {
    ToolHouse x = houseOfTwoThatMove(1, 1);
    due.of(x, 2, 0, 5);
    due.of(x, 3, 1, 2);
    due.of(x, 3, 2, 1);
  }

  private static void promise17ByRankAheadOfFirstDay() {
    ToolHouse x = houseOfTwoThatMove(2, 1);
    due.of(x, 2, 1, 2);
    due.of(x, 2, 8, 1);
    due.of(x, 3, 0, 5);
  }

  private static void promise17NotToALateThing() {
    ToolHouse x = houseOf(3, 0, 0);
    x.ask(0, 0, 0, 0, 0, 0);
    x.ask(0, 0, 0, 0, 0, 0);
    x.plan();
    x.out(0);
    x.out(1);
    book(x, 2, 3, 0);
    due.of(x, 2, 1, 0);
    x.days(2);
    due.is("thing 1 is LATE", x.thingOf(1, 3), 1);
    due.of(x, 2, 1, 2);
    ToolHouse y = houseOf(2, 0, 0);
    y.kind(5, 0, 0);
    y.ask(0, 0, 0, 0, 0, 0);
    y.ask(0, 0, 0, 0, 2, 0);
    y.plan();
    y.out(0);
    y.out(1);
    book(y, 3, 3, 0);
    due.of(y, 2, 1, 0);
    y.days(3);
    due.is("thing 1 is LATE too", y.thingOf(1, 3), 1);
    due.of(y, 2, 0, 5);
  }

  private static void promise17FirstOtherThingThatFits() {
    ToolHouse x = new ToolHouse();
    x.kind(0, 1, 0);
    x.kind(0, 2, 0);
    x.kind(0, 3, 0);
    x.thing(0);
    x.thing(1);
    x.thing(2);
    x.thing(2);
    x.thing(0);
    x.member();
    x.ask(0, 0, 0, 0, 0, 0);
    x.plan();
    x.out(0);
    x.ask(0, 2, 0, 1, 1, 2);
    x.ask(0, 0, 1, 1, 1, 0);
    x.ask(0, 0, 0, 2, 2, 0);
    x.plan();
    due.of(x, 1, 1, 2);
    due.of(x, 2, 1, 0);
    due.of(x, 3, 1, 0);
    x.days(1);
    due.of(x, 2, 1, 3);
    due.of(x, 2, 8, 1);
    due.of(x, 2, 2, 1);
    due.of(x, 3, 1, 0);
    x.days(1);
    due.of(x, 2, 0, 5);
    due.of(x, 3, 1, 4);
    due.of(x, 3, 8, 0);
  }

  /** What is over is lost ahead of the moves: its days then bar none. */
  private static void promise17LostThenFreesForMoved() {
    ToolHouse x = houseOf(2, 1, 0);
    x.ask(0, 0, 0, 0, 0, 0);
    x.ask(0, 0, 0, 0, 1, 0);
    x.plan();
    x.out(0);
    book(x, 2, 2, 0);
    due.of(x, 2, 1, 0);
    x.days(2);
    due.of(x, 1, 0, 5);
    due.of(x, 2, 0, 5);
    ToolHouse y = houseOf(2, 0, 0);
    y.ask(0, 0, 0, 0, 0, 0);
    y.ask(0, 0, 0, 0, 1, 0);
    y.plan();
    y.out(0);
    book(y, 2, 2, 0);
    y.days(2);
    due.of(y, 1, 0, 5);
    due.of(y, 2, 1, 1);
  }

  /** A thing that is OUT but not LATE may be moved to; once it is LATE the booking moves on. */
  private static void promise17MovedTwice() {
    ToolHouse x = new ToolHouse();
    x.kind(5, 1, 0);
    x.kind(0, 1, 0);
    x.thing(0);
    x.thing(1);
    x.thing(1);
    x.member();
    x.ask(0, 0, 0, 0, 0, 0);
    x.ask(0, 1, 0, 0, 2, 0);
    x.plan();
    x.out(0);
    x.out(1);
    x.ask(0, 0, 1, 6, 7, 0);
    x.plan();
    due.of(x, 2, 1, 0);
    x.days(1);
    due.of(x, 2, 1, 1);
    due.of(x, 2, 2, 1);
    x.days(4);
    due.of(x, 2, 1, 1);
    x.days(1);
    due.of(x, 2, 1, 2);
    due.of(x, 2, 2, 2);
    due.of(x, 2, 0, 1);
  }

  private static void promise17MovedFromOneThatWentOutBehindItsLastDay() {
    ToolHouse x = houseOf(2, 0, 0);
    x.ask(0, 0, 0, 0, 0, 0);
    x.days(1);
    x.ask(0, 0, 0, 1, 3, 0);
    x.ask(0, 0, 0, 4, 5, 0);
    x.plan();
    x.out(0);
    due.of(x, 1, 1, 0);
    due.of(x, 2, 1, 0);
    x.days(1);
    due.of(x, 0, 0, 3);
    due.of(x, 1, 1, 1);
    due.of(x, 1, 2, 1);
    due.of(x, 2, 1, 0);
    due.is("out(1) on the other THING", x.out(1), 0);
    ToolHouse y = houseOf(1, 0, 0);
    y.ask(0, 0, 0, 0, 0, 0);
    y.days(1);
    y.ask(0, 0, 0, 1, 3, 0);
    y.plan();
    y.out(0);
    y.days(1);
    due.of(y, 1, 0, 5);
    due.of(y, 1, 2, 0);
  }

  /** A jump of days is as good as as many single ones. */
  private static void promise17EachDayBegins() {
    ToolHouse x = houseOf(2, 0, 0);
    ToolHouse y = houseOf(2, 0, 0);
    ToolHouse[] both = {x, y};
    for (ToolHouse z : both) {
      book(z, 0, 0, 0);
      z.out(0);
      z.ask(0, 0, 0, 1, 1, 0);
      z.ask(0, 0, 0, 2, 2, 0);
      z.ask(0, 0, 0, 3, 9, 0);
      z.plan();
    }
    due.is("days(5)", x.days(5), 5);
    for (int i = 0; i < 5; i++) {
      y.days(1);
    }
    for (int ask = 0; ask < 4; ask++) {
      for (int what = 0; what <= 8; what++) {
        due.of(x, ask, what, Due.answerOf(y, ask, what));
      }
    }
    due.of(x, 1, 2, 1);
    due.of(x, 3, 1, 1);
    due.of(x, 3, 0, 1);
  }
}
