/**
 * The sentences of "Terms" 3 and of promises 14 to 17 and 19 to 23 that name a limit: a test for each, which quotes
 * it, in the document's order. What a refusal leaves as it was stands in RefusedCallsTest.
 */
public final class LoanLimitsTest {
  private static final int MAX = Integer.MAX_VALUE;
  private static final int MIN = Integer.MIN_VALUE;
  private static final int[] NO_NUMBERS = {MIN, -1, 100, MAX};
  private static final Due due = new Due();

  public static void main(String[] args) {
    termsOfGoingOut();
    termsOfComingBack();
    termsOfDays();
    promisesOfLoans();
    promisesOfViews();
    due.finish();
  }

  private static void termsOfGoingOut() {
    onItsFirstDayOrLaterUpToItsLast();
    fortyHoursOrFewer();
    thingIsNotOut();
    lawWantsOfTheLastDayTold();
    dayIsBehindBackAndCare();
    careOfTheThingsKind();
  }

  private static void termsOfComingBack() {
    anHourForEachDayTold();
    twoForEachDayBehind();
    feeForEachOfTheseHours();
  }

  private static void termsOfDays() {
    lostWhenItsLastDayIsOver();
    onlyWhatIsBookedIsLost();
    lostAheadOfTheMoves();
    lateWhenItsLastDayIsOver();
    movedWhenNotFreeAnyMore();
    movedFromOneThatCameBehindIt();
    movedByTheGreatestRankFirst();
    thenByFirstDay();
    thenByNumber();
    movedToTheFirstOtherThing();
    movedToNoneThatIsLate();
    movedToNoneThatIsNotFree();
    lostWithoutOne();
  }

  private static void promisesOfLoans() {
    outOfNoSuchOneThatIsBooked();
    outTellsTheFirstHindrance();
    outGoesBehindItsLastDay();
    backOfNoSuchOne();
    backCountsDaysBehind();
    workOneToHundred();
    workNotBelowZero();
    workOfNoSuchMember();
    daysOneToSixty();
    daysNotAbove5000();
    eachDayBegins();
  }

  private static void promisesOfViews() {
    ofTheGreatestNumbers();
    ofNoSuchAskOrWhat();
    thingAsItIsOrWasBookedOn();
    thingOfOthers();
    thingOfNone();
    isFreeOfNoSuchThingOrDays();
    isFreeToTheFarthestDay();
    memberOfOthers();
    asksThatAreOut();
    countOfNew();
    countOfOthers();
    countOfLawsDays();
  }

  private static ToolHouse houseOf(int things, int care, int fee) {
    ToolHouse x = new ToolHouse();
    x.kind(care, 0, fee);
    for (int i = 0; i < things; i++) {
      x.thing(0);
    }
    x.member();
    return x;
  }

  private static void book(ToolHouse x, int first, int last) {
    x.ask(0, 0, 0, first, last, 0);
    x.plan();
  }

  /** One loan of days 0 to last that comes back so many days behind it. */
  private static ToolHouse lent(int last, int behind, int fee) {
    ToolHouse x = houseOf(1, 0, fee);
    book(x, 0, last);
    x.out(0);
    if (last > 0) x.days(last);
    if (behind > 0) x.days(behind);
    due.is("back " + behind + " days behind " + last, x.back(0), behind);
    return x;
  }

  // "An ASK that is BOOKED goes OUT on its first day or later up to its last"
  private static void onItsFirstDayOrLaterUpToItsLast() {
    for (int day = 0; day <= 5; day++) {
      ToolHouse x = houseOf(1, 0, 0);
      book(x, 2, 4);
      if (day > 0) x.days(day);
      due.is("out on day " + day, x.out(0), day < 2 ? -2 : day <= 4 ? 0 : -1);
      due.of(x, 0, 0, day < 2 ? 1 : day <= 4 ? 3 : 5);
    }
  }

  // "its MEMBER owes 40 HOURS or fewer" (promise 14: "-3 its MEMBER owes more than 40 HOURS")
  private static void fortyHoursOrFewer() {
    for (int worked = 1; worked <= 4; worked++) {
      ToolHouse x = lent(0, 21, 0);
      due.is("HOURS", x.memberOf(0, 0), 43);
      book(x, 22, 22);
      x.days(1);
      x.work(0, worked);
      due.is("out with " + (43 - worked) + " HOURS", x.out(1), worked < 3 ? -3 : 0);
    }
    ToolHouse y = lent(0, 21, 0);
    y.member();
    y.ask(1, 0, 0, 22, 22, 0);
    y.plan();
    y.days(1);
    due.is("out of another MEMBER", y.out(1), 0);
  }

  // "the THING isn't OUT" (promise 14: "-4 the THING is OUT")
  private static void thingIsNotOut() {
    ToolHouse x = houseOf(2, 0, 0);
    x.ask(0, 0, 0, 0, 0, 0);
    x.days(1);
    x.ask(0, 0, 0, 1, 1, 0);
    x.ask(0, 0, 0, 1, 1, 0);
    due.is("plan()", x.plan(), 3);
    due.is("out(0)", x.out(0), 0);
    due.of(x, 1, 1, 0);
    due.of(x, 2, 1, 1);
    due.is("out of the THING that is OUT", x.out(1), -4);
    due.is("out of the other THING", x.out(2), 0);
  }

  // "what the LAW in force wants of it is so" (promise 14: "-5 the LAW"): of the last day told, not of DAY
  private static void lawWantsOfTheLastDayTold() {
    for (int look = 0; look <= 3; look++) {
      ToolHouse x = houseOf(1, 0, 0);
      book(x, 3, 5);
      if (look > 0) x.days(look);
      x.look(0);
      if (look < 3) x.days(3 - look);
      Due.tell(x, "every 0 3;");
      due.is("out with a look on day " + look, x.out(0), look < 2 ? -5 : 0);
    }
  }

  // "DAY is behind the DAY on which it last came BACK, and its CARE" (promise 14: "-6 its CARE")
  private static void dayIsBehindBackAndCare() {
    for (int care = 0; care <= 5; care++) {
      for (int later = 0; later <= care + 1; later++) {
        ToolHouse x = houseOf(1, care, 0);
        x.ask(0, 0, 0, 0, 0, 0);
        x.ask(0, 0, 0, care + 1, care + 10, 0);
        x.days(care + 1);
        x.plan();
        x.out(0);
        x.back(0);
        if (later > 0) x.days(later);
        due.is("out " + later + " days behind BACK, CARE " + care, x.out(1), later > care ? 0 : -6);
      }
    }
    ToolHouse fresh = houseOf(1, 5, 0);
    book(fresh, 0, 0);
    due.is("out on day 0 of one that never came BACK", fresh.out(0), 0);
  }

  /** It is the care of the thing that came back, not of the kind that was asked for. */
  private static void careOfTheThingsKind() {
    ToolHouse x = new ToolHouse();
    x.kind(5, 0, 0);
    x.kind(1, 1, 0);
    x.thing(1);
    x.member();
    x.ask(0, 0, 1, 0, 0, 0);
    x.ask(0, 0, 1, 2, 9, 0);
    x.days(2);
    due.is("plan()", x.plan(), 2);
    x.out(0);
    x.back(0);
    x.days(1);
    due.is("out a day behind BACK", x.out(1), -6);
    x.days(1);
    due.is("out two days behind BACK", x.out(1), 0);
  }

  // "the MEMBER owes an HOUR for each day (from the first to the last told)"
  private static void anHourForEachDayTold() {
    for (int last : new int[] {0, 1, 14}) {
      due.is("HOURS of days 0 to " + last, lent(last, 0, 0).memberOf(0, 0), last + 1);
    }
    ToolHouse x = houseOf(1, 0, 0);
    book(x, 2, 9);
    x.days(4);
    x.out(0);
    due.is("HOURS while OUT", x.memberOf(0, 0), 0);
    x.days(1);
    x.back(0);
    due.is("HOURS of one that went later and came early", x.memberOf(0, 0), 8);
  }

  // "two for each day behind it up to DAY"
  private static void twoForEachDayBehind() {
    for (int behind : new int[] {0, 1, 2, 46}) {
      due.is("HOURS, " + behind + " behind", lent(14, behind, 0).memberOf(0, 0), 15 + 2 * behind);
    }
  }

  // "and for each of these HOURS the FEE of the THING's KIND"
  private static void feeForEachOfTheseHours() {
    due.is("FEES of 0", lent(14, 2, 0).memberOf(0, 1), 0);
    due.is("FEES of 1", lent(14, 2, 1).memberOf(0, 1), 19);
    due.is("FEES of 100", lent(14, 2, 100).memberOf(0, 1), 1900);
    ToolHouse x = new ToolHouse();
    x.kind(0, 0, 100);
    x.kind(0, 1, 3);
    x.thing(1);
    x.member();
    x.ask(0, 0, 1, 0, 0, 0);
    x.plan();
    x.out(0);
    x.days(1);
    x.back(0);
    due.is("FEES of a SUBSTITUTE", x.memberOf(0, 1), 9);
    due.is("work(0, 100)", x.work(0, 100), 0);
    due.is("FEES behind work", x.memberOf(0, 1), 9);
  }

  // "first each ASK that is BOOKED and whose last day is over is LOST"
  private static void lostWhenItsLastDayIsOver() {
    ToolHouse x = houseOf(2, 0, 0);
    x.ask(0, 0, 0, 0, 1, 0);
    x.ask(0, 0, 0, 0, 2, 0);
    x.plan();
    x.days(1);
    due.of(x, 0, 0, 1);
    x.days(1);
    due.of(x, 0, 0, 5);
    due.of(x, 1, 0, 1);
    due.is("out on its last day", x.out(1), 0);
  }

  private static void onlyWhatIsBookedIsLost() {
    ToolHouse x = houseOf(2, 0, 0);
    x.ask(0, 0, 0, 0, 0, 0);
    x.ask(0, 0, 0, 0, 0, 0);
    x.ask(0, 0, 0, 0, 0, 0);
    x.ask(0, 0, 0, 0, 0, 0);
    x.off(3);
    x.plan();
    x.out(0);
    x.out(1);
    x.back(1);
    x.ask(0, 0, 0, 0, 0, 0);
    x.days(9);
    int[] states = {3, 4, 2, 6, 0};
    for (int ask = 0; ask < states.length; ask++) {
      due.of(x, ask, 0, states[ask]);
    }
    due.is("LOST", x.count(15), 0);
  }

  /** "first .. Then": what is over bars no other one from its thing as they are moved. */
  private static void lostAheadOfTheMoves() {
    ToolHouse x = new ToolHouse();
    x.kind(0, 1, 0);
    x.kind(2, 1, 0);
    x.thing(0);
    x.thing(1);
    x.member();
    x.ask(0, 0, 0, 0, 0, 0);
    x.ask(0, 1, 0, 0, 1, 0);
    x.ask(0, 0, 1, 2, 3, 0);
    due.is("plan()", x.plan(), 3);
    x.out(0);
    due.of(x, 2, 1, 0);
    due.is("the other THING is not FREE", x.isFree(1, 2, 3), 0);
    x.days(2);
    due.of(x, 1, 0, 5);
    due.of(x, 2, 0, 1);
    due.of(x, 2, 1, 1);
  }

  // "LATE (one that is OUT with an ASK whose last day is over)"
  private static void lateWhenItsLastDayIsOver() {
    ToolHouse x = houseOf(2, 0, 0);
    book(x, 0, 1);
    due.is("LATE while BOOKED", x.thingOf(0, 3), 0);
    x.out(0);
    due.is("LATE ahead of its last day", x.thingOf(0, 3), 0);
    x.days(1);
    due.is("LATE on its last day", x.thingOf(0, 3), 0);
    x.days(1);
    due.is("LATE behind its last day", x.thingOf(0, 3), 1);
    due.is("the other one", x.thingOf(1, 3), 0);
    x.back(0);
    due.is("LATE behind BACK", x.thingOf(0, 3), 0);
  }

  // "each ASK that is BOOKED on such a THING and isn't FREE there any more is MOVED"
  private static void movedWhenNotFreeAnyMore() {
    for (int care = 0; care <= 5; care++) {
      ToolHouse x = houseOf(2, care, 0);
      book(x, 0, 0);
      book(x, care + 3, care + 3);
      x.out(0);
      for (int day = 1; day <= 2; day++) {
        x.days(1);
        due.is("LATE", x.thingOf(0, 3), 1);
        due.of(x, 1, 1, 0);
        due.of(x, 1, 2, 0);
      }
      x.days(1);
      due.of(x, 1, 0, 1);
      due.of(x, 1, 1, 1);
      due.of(x, 1, 2, 1);
    }
  }

  /** The ask that is moved may be the very first, and the one that is late a later one. */
  private static void movedFromOneThatCameBehindIt() {
    ToolHouse x = houseOf(2, 0, 0);
    book(x, 2, 3);
    book(x, 0, 0);
    due.of(x, 1, 1, 0);
    x.out(1);
    x.days(1);
    due.of(x, 0, 1, 0);
    x.days(1);
    due.of(x, 0, 1, 1);
    due.of(x, 0, 2, 1);
  }

  /** Things 0 to 4 are late from day 1 on, and the five asks behind 5 to 9 must find room on the others. */
  private static ToolHouse houseOfFiveThatMove(int others, int[] ranks) {
    ToolHouse x = houseOf(5 + others, 0, 0);
    for (int i = 0; i < 5; i++) {
      x.ask(0, 0, 0, 0, 0, 0);
    }
    x.plan();
    for (int i = 0; i < 5; i++) {
      x.out(i);
      x.ask(0, 0, 0, 1, 2, ranks[i]);
    }
    x.plan();
    for (int i = 0; i < 5; i++) {
      due.of(x, 5 + i, 1, i);
    }
    x.days(1);
    return x;
  }

  private static void movedOrLost(ToolHouse x, int... things) {
    for (int i = 0; i < things.length; i++) {
      due.of(x, 5 + i, 0, things[i] == -1 ? 5 : 1);
      due.of(x, 5 + i, 2, things[i] == -1 ? 0 : 1);
      due.of(x, 5 + i, 1, things[i] == -1 ? i : things[i]);
    }
  }

  // "by RANK (the greatest first)"
  private static void movedByTheGreatestRankFirst() {
    int[] ranks = {0, 1, 2, 1, 0};
    movedOrLost(houseOfFiveThatMove(1, ranks), -1, -1, 5, -1, -1);
    movedOrLost(houseOfFiveThatMove(3, ranks), -1, 6, 5, 7, -1);
  }

  /** Thing 0 of care 1 and thing 1 of none are late, each with one booking that must move to thing 2. */
  private static ToolHouse houseOfTwoThatMove(boolean lesserNumberBeginsFirst) {
    ToolHouse x = new ToolHouse();
    x.kind(1, 1, 0);
    x.kind(0, 1, 0);
    x.thing(0);
    x.thing(1);
    x.thing(1);
    x.member();
    x.ask(0, 0, 0, 0, 0, 0);
    x.ask(0, 1, 0, 0, 0, 0);
    x.plan();
    x.out(0);
    x.out(1);
    if (lesserNumberBeginsFirst) {
      x.ask(0, 1, 1, 1, 4, 1);
      x.ask(0, 0, 1, 2, 2, 1);
    } else {
      x.ask(0, 0, 1, 2, 2, 1);
      x.ask(0, 1, 1, 1, 4, 1);
    }
    x.plan();
    x.days(1);
    return x;
  }

  // "then by first day", whichever has the lesser number
  private static void thenByFirstDay() {
    ToolHouse x = houseOfTwoThatMove(false);
    due.of(x, 2, 0, 5);
    due.of(x, 2, 1, 0);
    due.of(x, 3, 1, 2);
    ToolHouse y = houseOfTwoThatMove(true);
    due.of(y, 2, 1, 2);
    due.of(y, 3, 0, 5);
    due.of(y, 3, 1, 0);
  }

  // "then by number"
  private static void thenByNumber() {
    int[] ranks = {1, 1, 1, 1, 1};
    movedOrLost(houseOfFiveThatMove(1, ranks), 5, -1, -1, -1, -1);
    movedOrLost(houseOfFiveThatMove(4, ranks), 5, 6, 7, 8, -1);
    movedOrLost(houseOfFiveThatMove(7, ranks), 5, 6, 7, 8, 9);
  }

  // "to the first other THING that FITS": a lesser one, one of another KIND, the twelfth
  private static void movedToTheFirstOtherThing() {
    ToolHouse x = new ToolHouse();
    x.kind(0, 1, 0);
    x.kind(0, 2, 0);
    x.kind(0, 3, 0);
    for (int i = 0; i < 10; i++) {
      x.thing(1);
    }
    x.thing(0);
    x.thing(2);
    x.member();
    x.ask(0, 0, 0, 0, 0, 0);
    x.ask(0, 0, 1, 1, 1, 0);
    x.plan();
    x.out(0);
    due.of(x, 1, 1, 10);
    x.days(1);
    due.of(x, 1, 1, 11);
    due.of(x, 1, 8, 1);
    ToolHouse y = new ToolHouse();
    y.kind(0, 1, 0);
    y.kind(0, 1, 0);
    y.thing(1);
    y.thing(0);
    y.thing(0);
    y.member();
    y.ask(0, 0, 0, 0, 0, 0);
    y.ask(0, 0, 1, 1, 1, 0);
    y.plan();
    y.out(0);
    due.of(y, 1, 1, 1);
    y.days(1);
    due.of(y, 1, 1, 0);
    due.of(y, 1, 8, 1);
  }

  // "(none that is LATE)": not even where it would be FREE there
  private static void movedToNoneThatIsLate() {
    ToolHouse x = new ToolHouse();
    x.kind(3, 1, 0);
    x.kind(0, 1, 0);
    x.thing(0);
    x.thing(1);
    x.thing(1);
    x.member();
    x.ask(0, 0, 0, 0, 0, 0);
    x.ask(0, 1, 0, 0, 0, 0);
    x.plan();
    x.out(0);
    x.out(1);
    x.ask(0, 0, 1, 4, 4, 0);
    x.plan();
    due.of(x, 2, 1, 0);
    x.days(1);
    due.is("thing 1 is LATE", x.thingOf(1, 3), 1);
    due.is("thing 1 would be FREE", x.isFree(1, 4, 4), 1);
    due.of(x, 2, 1, 2);
  }

  // "and is FREE for it": one that is BOOKED there bars it up to its last day and CARE, as does one that is OUT
  private static void movedToNoneThatIsNotFree() {
    for (int last = 1; last <= 2; last++) {
      ToolHouse x = new ToolHouse();
      x.kind(4, 1, 0);
      x.kind(2, 1, 0);
      x.thing(0);
      x.thing(1);
      x.thing(1);
      x.member();
      x.ask(0, 0, 0, 0, 0, 0);
      x.ask(0, 1, 0, 1, 1 + last, 0);
      x.ask(0, 0, 1, 5, 5, 0);
      x.plan();
      x.out(0);
      due.of(x, 1, 1, 1);
      due.of(x, 2, 1, 0);
      x.days(1);
      due.of(x, 2, 1, last == 1 ? 1 : 2);
    }
  }

  // "without one it is LOST"
  private static void lostWithoutOne() {
    ToolHouse x = houseOf(1, 0, 0);
    x.kind(0, 255, 0);
    x.thing(1);
    book(x, 0, 0);
    book(x, 2, 9);
    x.out(0);
    x.days(1);
    due.of(x, 1, 0, 1);
    x.days(1);
    due.of(x, 1, 0, 5);
    due.of(x, 1, 1, 0);
    due.of(x, 1, 2, 0);
  }

  // Promise 14: "NONE: no such one that is BOOKED"
  private static void outOfNoSuchOneThatIsBooked() {
    ToolHouse x = houseOf(1, 0, 0);
    due.is("out(0) of none", x.out(0), -1);
    x.ask(0, 0, 0, 0, 0, 0);
    due.is("out of PENDING", x.out(0), -1);
    x.ask(0, 0, 0, 0, 0, 0);
    x.ask(0, 0, 0, 1, 1, 0);
    x.ask(0, 0, 0, 2, 2, 0);
    x.plan();
    for (int ask : NO_NUMBERS) {
      due.is("out(" + ask + ")", x.out(ask), -1);
    }
    due.is("out(4)", x.out(4), -1);
    due.is("out of REFUSED", x.out(1), -1);
    x.off(3);
    due.is("out of CALLED OFF", x.out(3), -1);
    x.out(0);
    due.is("out of OUT", x.out(0), -1);
    x.back(0);
    due.is("out of BACK", x.out(0), -1);
    x.days(2);
    due.is("out of LOST", x.out(2), -1);
  }

  /** Day 27: ask 1 is OUT behind its last day, and member 1 with ask 2 on its thing owes 51 HOURS. */
  private static ToolHouse houseOfAllHindrances(int first) {
    ToolHouse x = houseOf(1, 0, 0);
    x.member();
    x.ask(1, 0, 0, 0, 0, 0);
    x.plan();
    x.out(0);
    x.days(25);
    x.back(0);
    due.is("HOURS", x.memberOf(1, 0), 51);
    x.ask(0, 0, 0, 26, 26, 0);
    x.ask(1, 0, 0, first, 30, 0);
    x.days(2);
    due.is("plan()", x.plan(), 2);
    due.is("out(1) behind its last day", x.out(1), 0);
    Due.tell(x, "every 0 0;");
    return x;
  }

  // Promise 14: "else the first of these": each is put aside in turn, and the next one is told
  private static void outTellsTheFirstHindrance() {
    due.is("its first day, ahead of all", houseOfAllHindrances(28).out(2), -2);
    ToolHouse x = houseOfAllHindrances(27);
    due.is("HOURS, ahead of OUT", x.out(2), -3);
    x.work(1, 11);
    due.is("OUT, ahead of the LAW", x.out(2), -4);
    x.back(1);
    due.is("the LAW, ahead of CARE", x.out(2), -5);
    Due.tell(x, "");
    due.is("CARE", x.out(2), -6);
    x.days(1);
    due.is("none of them", x.out(2), 0);
  }

  /** Issue 5: one that is BOOKED only when its last day is over goes OUT, until the next day begins. */
  private static void outGoesBehindItsLastDay() {
    ToolHouse x = houseOf(1, 0, 0);
    x.ask(0, 0, 0, 0, 0, 0);
    x.days(1);
    x.plan();
    due.is("out", x.out(0), 0);
    due.is("back", x.back(0), 1);
    due.is("HOURS", x.memberOf(0, 0), 3);
    ToolHouse y = houseOf(1, 0, 0);
    y.ask(0, 0, 0, 0, 0, 0);
    y.days(1);
    y.plan();
    y.days(1);
    due.is("out a day later", y.out(0), -1);
    due.of(y, 0, 0, 5);
  }

  // Promise 15: "NONE: no such one" (that is OUT)
  private static void backOfNoSuchOne() {
    ToolHouse x = houseOf(1, 0, 5);
    due.is("back(0) of none", x.back(0), -1);
    x.ask(0, 0, 0, 0, 0, 0);
    due.is("back of PENDING", x.back(0), -1);
    x.ask(0, 0, 0, 0, 0, 0);
    x.ask(0, 0, 0, 1, 1, 0);
    x.ask(0, 0, 0, 2, 2, 0);
    x.plan();
    due.is("back of BOOKED", x.back(0), -1);
    due.is("back of REFUSED", x.back(1), -1);
    x.off(3);
    due.is("back of CALLED OFF", x.back(3), -1);
    x.out(0);
    for (int ask : NO_NUMBERS) {
      due.is("back(" + ask + ")", x.back(ask), -1);
    }
    due.is("back(4)", x.back(4), -1);
    due.is("back of OUT", x.back(0), 0);
    due.is("back of BACK", x.back(0), -1);
    due.is("FEES of one loan", x.memberOf(0, 1), 5);
    x.days(2);
    due.is("back of LOST", x.back(2), -1);
  }

  // Promise 15: "the days that it is behind its last day (0: none)"
  private static void backCountsDaysBehind() {
    ToolHouse early = houseOf(1, 0, 0);
    book(early, 0, 9);
    early.out(0);
    due.is("back 9 days ahead", early.back(0), 0);
    for (int behind : new int[] {0, 1, 2, 60}) {
      lent(0, behind, 0);
    }
    ToolHouse x = houseOf(1, 5, 100);
    book(x, 0, 0);
    x.out(0);
    for (int i = 0; i < 83; i++) {
      x.days(60);
    }
    x.days(20);
    due.is("back on the latest day", x.back(0), 5000);
    due.is("HOURS", x.memberOf(0, 0), 10001);
    due.is("FEES", x.memberOf(0, 1), 1000100);
    due.is("isFree in its CARE", x.isFree(0, 5005, 5005), 0);
    due.is("isFree behind its CARE", x.isFree(0, 5006, 5006), 1);
  }

  // Promise 16: "HOURS (1 to 100)"
  private static void workOneToHundred() {
    ToolHouse x = lent(14, 60, 0);
    due.is("HOURS", x.memberOf(0, 0), 135);
    for (int hours : new int[] {MIN, -100, -1, 0, 101, MAX}) {
      due.is("work(0, " + hours + ")", x.work(0, hours), -1);
    }
    due.is("HOURS", x.memberOf(0, 0), 135);
    due.is("work(0, 1)", x.work(0, 1), 134);
    due.is("work(0, 100)", x.work(0, 100), 34);
    due.is("HOURS", x.memberOf(0, 0), 34);
  }

  // Promise 16: "what is owed then (not below 0)"
  private static void workNotBelowZero() {
    for (int hours = 14; hours <= 16; hours++) {
      ToolHouse x = lent(14, 0, 0);
      due.is("work(0, " + hours + ") of 15", x.work(0, hours), hours == 14 ? 1 : 0);
      due.is("HOURS", x.memberOf(0, 0), hours == 14 ? 1 : 0);
    }
    due.is("work(0, 100) of none", houseOf(1, 0, 0).work(0, 100), 0);
  }

  // Promise 16: "NONE: no such one"
  private static void workOfNoSuchMember() {
    due.is("work(0, 1) of none", new ToolHouse().work(0, 1), -1);
    ToolHouse x = houseOf(1, 0, 0);
    for (int member : NO_NUMBERS) {
      due.is("work(" + member + ", 1)", x.work(member, 1), -1);
    }
    due.is("work(1, 1)", x.work(1, 1), -1);
  }

  // Promise 17: "So many DAYS (1 to 60)"
  private static void daysOneToSixty() {
    ToolHouse x = new ToolHouse();
    for (int n : new int[] {MIN, -60, -1, 0, 61, 5000, MAX}) {
      due.is("days(" + n + ")", x.days(n), -1);
      due.is("DAY", x.count(4), 0);
    }
    due.is("days(1)", x.days(1), 1);
    due.is("days(60)", x.days(60), 61);
  }

  // Promise 17: "it would be above 5000"
  private static void daysNotAbove5000() {
    ToolHouse x = new ToolHouse();
    for (int i = 1; i <= 83; i++) {
      due.is("days(60)", x.days(60), 60 * i);
    }
    due.is("days(60) to 5040", x.days(60), -1);
    due.is("days(21) to 5001", x.days(21), -1);
    due.is("days(19) to 4999", x.days(19), 4999);
    due.is("days(2) to 5001", x.days(2), -1);
    due.is("days(1) to 5000", x.days(1), 5000);
    due.is("days(1) to 5001", x.days(1), -1);
    due.is("days(0)", x.days(0), -1);
    due.is("DAY", x.count(4), 5000);
  }

  // Promise 17: "each begins as told"
  private static void eachDayBegins() {
    ToolHouse x = houseOf(2, 0, 0);
    x.ask(0, 0, 0, 0, 0, 0);
    x.ask(0, 0, 0, 0, 3, 0);
    x.plan();
    x.out(0);
    book(x, 2, 8);
    due.is("days(4)", x.days(4), 4);
    // On day 2 the other thing was still taken: a jump to day 4 alone would have moved it there.
    due.of(x, 2, 0, 5);
    due.of(x, 1, 0, 5);
  }

  // Promises 19 and 20: the last kind, thing and member, and the farthest and longest days, are told as any other.
  private static void ofTheGreatestNumbers() {
    ToolHouse x = new ToolHouse();
    for (int i = 0; i < 8; i++) {
      x.kind(5, 255, 100);
    }
    for (int i = 0; i < 12; i++) {
      x.thing(i < 11 ? 0 : 7);
    }
    for (int i = 0; i < 10; i++) {
      x.member();
    }
    x.ask(9, 7, 255, 46, 60, 2);
    x.plan();
    int[] want = {1, 11, 0, 9, 7, 46, 60, 2, 0};
    for (int what = 0; what < want.length; what++) {
      due.of(x, 0, what, want[what]);
    }
    due.is("KIND of thing 11", x.thingOf(11, 0), 7);
    due.is("KIND of thing 10", x.thingOf(10, 0), 0);
  }

  // Promise 19: "NoSuchElementException: no such ASK, what."
  private static void ofNoSuchAskOrWhat() {
    due.of(new ToolHouse(), 0, 0, Due.NO_SUCH_ELEMENT);
    ToolHouse x = houseOf(1, 0, 0);
    x.ask(0, 0, 0, 0, 0, 0);
    for (int wrong : NO_NUMBERS) {
      due.of(x, wrong, 0, Due.NO_SUCH_ELEMENT);
      due.of(x, 0, wrong, Due.NO_SUCH_ELEMENT);
      due.of(x, wrong, wrong, Due.NO_SUCH_ELEMENT);
    }
    due.of(x, 1, 0, Due.NO_SUCH_ELEMENT);
    due.of(x, 0, 9, Due.NO_SUCH_ELEMENT);
    due.of(x, 0, 8, -1);
    due.of(x, 0, 0, 0);
  }

  // Promise 19: "the THING (as it is, or was, BOOKED on; NONE)", "whether .. a SUBSTITUTE (1, 0; NONE without)"
  private static void thingAsItIsOrWasBookedOn() {
    ToolHouse x = houseOf(1, 0, 0);
    for (int i = 0; i < 5; i++) {
      x.ask(0, 0, 0, i == 4 ? 0 : i, i == 4 ? 0 : i, 0);
    }
    x.plan();
    x.out(0);
    x.off(3);
    x.ask(0, 0, 0, 9, 9, 0);
    x.off(5);
    x.ask(0, 0, 0, 9, 9, 0);
    int[][] want = {{3, 0, 0}, {1, 0, 0}, {1, 0, 0}, {6, 0, 0}, {2, -1, -1}, {6, -1, -1}, {0, -1, -1}};
    for (int ask = 0; ask < want.length; ask++) {
      due.of(x, ask, 0, want[ask][0]);
      due.of(x, ask, 1, want[ask][1]);
      due.of(x, ask, 8, want[ask][2]);
    }
    x.back(0);
    x.days(3);
    due.of(x, 0, 0, 4);
    due.of(x, 0, 1, 0);
    due.of(x, 1, 0, 5);
    due.of(x, 1, 1, 0);
    due.of(x, 1, 8, 0);
  }

  // Promise 20: "NONE for others."
  private static void thingOfOthers() {
    due.is("thingOf(0, 0) of none", new ToolHouse().thingOf(0, 0), -1);
    ToolHouse x = houseOf(2, 0, 0);
    for (int wrong : NO_NUMBERS) {
      for (int what = 0; what <= 4; what++) {
        due.is("thingOf(" + wrong + ", " + what + ")", x.thingOf(wrong, what), -1);
      }
      due.is("thingOf(0, " + wrong + ")", x.thingOf(0, wrong), -1);
    }
    due.is("thingOf(2, 0)", x.thingOf(2, 0), -1);
    due.is("thingOf(0, 5)", x.thingOf(0, 5), -1);
    due.is("thingOf(1, 4)", x.thingOf(1, 4), 0);
  }

  // Promise 20: "the DAY of its last look (NONE)", "the ASK with which it is OUT (NONE)", "how many are BOOKED on it"
  private static void thingOfNone() {
    ToolHouse x = houseOf(2, 0, 0);
    due.is("its last look", x.thingOf(0, 1), -1);
    due.is("its ask", x.thingOf(0, 2), -1);
    for (int i = 0; i < 5; i++) {
      x.ask(0, 0, 0, i, i, 0);
    }
    due.is("BOOKED on it while PENDING", x.thingOf(0, 4), 0);
    x.plan();
    due.is("BOOKED on it", x.thingOf(0, 4), 5);
    due.is("BOOKED on the other", x.thingOf(1, 4), 0);
    due.is("its ask while BOOKED", x.thingOf(0, 2), -1);
    x.out(0);
    due.is("BOOKED on it while OUT", x.thingOf(0, 4), 4);
    due.is("its ask 0", x.thingOf(0, 2), 0);
    x.back(0);
    due.is("its ask behind BACK", x.thingOf(0, 2), -1);
    x.off(4);
    due.is("BOOKED on it behind off", x.thingOf(0, 4), 3);
    x.days(3);
    due.is("BOOKED on it behind LOST", x.thingOf(0, 4), 1);
  }

  // Promise 21: "NONE: no such THING, days (from DAY on, in order)"
  private static void isFreeOfNoSuchThingOrDays() {
    due.is("isFree(0, 0, 0) of none", new ToolHouse().isFree(0, 0, 0), -1);
    ToolHouse x = houseOf(1, 0, 0);
    x.days(5);
    for (int thing : NO_NUMBERS) {
      due.is("isFree(" + thing + ", 5, 5)", x.isFree(thing, 5, 5), -1);
    }
    due.is("isFree(1, 5, 5)", x.isFree(1, 5, 5), -1);
    int[][] wrong = {{4, 5}, {4, 4}, {6, 5}, {MAX, MAX - 1}, {MIN, MAX}, {MIN, MIN}, {MAX, MIN}, {5, MIN}, {5, 4},
        {-1, 5}};
    for (int[] w : wrong) {
      due.is("isFree(0, " + w[0] + ", " + w[1] + ")", x.isFree(0, w[0], w[1]), -1);
    }
    due.is("isFree(0, 5, 5)", x.isFree(0, 5, 5), 1);
  }

  /** No day is too far, nor are so many of them too long; none of it wraps around. */
  private static void isFreeToTheFarthestDay() {
    ToolHouse x = houseOf(1, 5, 0);
    due.is("all days of one that holds none", x.isFree(0, 0, MAX), 1);
    book(x, 60, 60);
    due.is("all days", x.isFree(0, 0, MAX), 0);
    due.is("up to day 54", x.isFree(0, 0, 54), 1);
    due.is("up to day 55", x.isFree(0, 0, 55), 0);
    due.is("from day 65", x.isFree(0, 65, MAX), 0);
    due.is("from day 66", x.isFree(0, 66, MAX), 1);
    due.is("the farthest days", x.isFree(0, MAX - 4, MAX), 1);
    due.is("the farthest day", x.isFree(0, MAX, MAX), 1);
  }

  // Promise 22: "NONE for others."
  private static void memberOfOthers() {
    due.is("memberOf(0, 0) of none", new ToolHouse().memberOf(0, 0), -1);
    ToolHouse x = houseOf(1, 0, 0);
    x.member();
    for (int wrong : NO_NUMBERS) {
      for (int what = 0; what <= 2; what++) {
        due.is("memberOf(" + wrong + ", " + what + ")", x.memberOf(wrong, what), -1);
      }
      due.is("memberOf(0, " + wrong + ")", x.memberOf(0, wrong), -1);
    }
    due.is("memberOf(2, 0)", x.memberOf(2, 0), -1);
    due.is("memberOf(0, 3)", x.memberOf(0, 3), -1);
    for (int what = 0; what <= 2; what++) {
      due.is("memberOf(1, " + what + ")", x.memberOf(1, what), 0);
    }
  }

  // Promise 22: "2 ASKS that are OUT": none, as many as there are things, none again
  private static void asksThatAreOut() {
    ToolHouse x = houseOf(12, 0, 0);
    x.member();
    for (int i = 0; i < 12; i++) {
      book(x, 0, 0);
      due.is("OUT while BOOKED", x.memberOf(0, 2), i);
      x.out(i);
      due.is("OUT", x.memberOf(0, 2), i + 1);
      due.is("OUT of the other MEMBER", x.memberOf(1, 2), 0);
    }
    x.days(2);
    for (int i = 0; i < 12; i++) {
      x.back(i);
      due.is("OUT behind BACK", x.memberOf(0, 2), 11 - i);
    }
  }

  // Promise 1: "No KINDS, THINGS, MEMBERS, LAWS, ASKS; DAY 0; an empty TAPE."
  private static void countOfNew() {
    ToolHouse x = new ToolHouse();
    for (int what = -2; what <= 30; what++) {
      boolean counted = what >= 0 && what <= 6 || what >= 10 && what <= 16;
      due.is("count(" + what + ")", x.count(what), counted ? 0 : -1);
    }
  }

  // Promise 23: "NONE for others."
  private static void countOfOthers() {
    ToolHouse x = houseOf(1, 0, 0);
    for (int what : new int[] {MIN, -1, 7, 8, 9, 17, 18, 19, 28, 29, 30, 100, MAX}) {
      due.is("count(" + what + ")", x.count(what), -1);
    }
  }

  // Promise 23: "20 and k days that the LAW in force wants of KIND k (NONE: none)"
  private static void countOfLawsDays() {
    ToolHouse x = new ToolHouse();
    for (int i = 0; i < 8; i++) {
      x.kind(0, 0, 0);
    }
    Due.tell(x, "every 0 0;every 7 999;");
    due.is("count(19)", x.count(19), -1);
    due.is("count(20)", x.count(20), 0);
    for (int kind = 1; kind < 7; kind++) {
      due.is("count(" + (20 + kind) + ")", x.count(20 + kind), -1);
    }
    due.is("count(27)", x.count(27), 999);
    due.is("count(28)", x.count(28), -1);
    Due.tell(x, "");
    due.is("count(20) behind a law of nothing", x.count(20), -1);
    due.is("count(27) behind a law of nothing", x.count(27), -1);
  }
}
