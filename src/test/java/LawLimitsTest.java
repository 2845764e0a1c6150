/**
 * The sentences of "Terms" 1 and of promises 1 to 10 that name a limit: a test for each, which quotes it, in the
 * document's order. What a refusal leaves as it was stands in RefusedCallsTest.
 */
public final class LawLimitsTest {
  private static final int MAX = Integer.MAX_VALUE;
  private static final int MIN = Integer.MIN_VALUE;
  private static final int MOST_BYTES = 200;
  private static final Due due = new Due();

  public static void main(String[] args) {
    termsOfStock();
    termsOfLaws();
    termsOfTexts();
    termsOfFaults();
    promisesOfTheTape();
    promisesOfLaws();
    due.finish();
  }

  private static void termsOfStock() {
    dayIsZeroAtFirst();
    kindsAtMostEight();
    careZeroToFive();
    featuresZeroTo255();
    feeZeroToHundred();
    thingsAtMostTwelve();
    thingsAreOfAKind();
    membersAtMostTen();
  }

  private static void termsOfLaws() {
    lawsAtMostTwenty();
    lawIsInForceFromItsDay();
    lastToldIsInForce();
    textAtMost200Bytes();
    textOfNoRules();
    textOfManyRules();
    lookNoMoreThanSoManyDaysAhead();
    lookThatNeverWas();
    ofOneKindTheLaterHolds();
    withoutOneNoLooks();
  }

  private static void termsOfTexts() {
    blanksAreTwoBytesAlone();
    blanksWhereOneLikes();
    wordsAsManyAsStandTogether();
    bytesBesideLettersEndAWord();
    numbersOfOneToThreeDigits();
    bytesBesideDigitsEndANumber();
    everyByteAsASign();
  }

  private static void termsOfFaults() {
    firstFaultFromTheLeft();
    ofOnePlaceTheLeast();
    tokenWithWhichNoTextGoesOn();
    longerNumberAtItsFirstByte();
    endAtHowManyBytesThereAre();
    endOfAFullTape();
    numberThatIsNoKinds();
    numberOfDaysIsNoKinds();
    faultChangesNothing();
  }

  private static void promisesOfTheTape() {
    newTapeIsEmpty();
    feedTheHighestFirst();
    feedOfSignedNumbers();
    feedNoMoreThan200();
    feedBehindWhatStaysOfTheTape();
    endOfTheFirstBytesAlone();
    endBelowZeroOrBeyond();
  }

  private static void promisesOfLaws() {
    lawEmptiesTheTape();
    lawIsNumberedWithoutFaults();
    lawAtTwentyLeavesTheTape();
    placeOfTheLatestThatWasNotNone();
    lookAtNoSuchOneOrOneThatIsOut();
    lookOnThisDay();
    lawfulOfNoSuchThing();
    lawfulOfADayAheadOfDay();
    lawfulOfTheFarthestDay();
  }

  /** Kinds of no care, a thing of each, and one member. */
  private static ToolHouse houseOf(int kinds) {
    ToolHouse x = new ToolHouse();
    for (int i = 0; i < kinds; i++) {
      x.kind(0, 0, 1);
      x.thing(i);
    }
    x.member();
    return x;
  }

  private static void fault(ToolHouse x, String text, int fault, int place) {
    due.is("law '" + text + "'", Due.tell(x, text), -1 - fault);
    due.is("place in '" + text + "'", x.place(), place);
  }

  private static void fault(String text, int fault, int place) {
    fault(houseOf(1), text, fault, place);
  }

  /** A good text, and what it wants of kind 0. */
  private static void good(String text, int days) {
    ToolHouse x = houseOf(1);
    due.is("law '" + text + "'", Due.tell(x, text), 0);
    due.is("place in '" + text + "'", x.place(), -1);
    due.is("days told by '" + text + "'", x.count(20), days);
  }

  private static String filled(String text, char blank) {
    StringBuilder full = new StringBuilder(text);
    while (full.length() < MOST_BYTES) {
      full.append(blank);
    }
    return full.toString();
  }

  // "DAY is a number, 0 at first."
  private static void dayIsZeroAtFirst() {
    ToolHouse x = houseOf(1);
    due.is("DAY", x.count(4), 0);
    due.is("isFree(0, -1, 0)", x.isFree(0, -1, 0), -1);
    due.is("isFree(0, 0, 0)", x.isFree(0, 0, 0), 1);
  }

  // "KINDS, at most 8, numbered as they come" (promise 2: "NONE: .. eight are there")
  private static void kindsAtMostEight() {
    ToolHouse x = new ToolHouse();
    for (int i = 0; i < 8; i++) {
      due.is("count(0)", x.count(0), i);
      due.is("kind " + i, x.kind(0, 0, 0), i);
    }
    due.is("a ninth kind", x.kind(0, 0, 0), -1);
    due.is("count(0)", x.count(0), 8);
    x.member();
    due.is("thing(7)", x.thing(7), 0);
    due.is("thing(8)", x.thing(8), -1);
    due.is("ask of kind 7", x.ask(0, 7, 0, 0, 0, 0), 0);
    due.is("ask of kind 8", x.ask(0, 8, 0, 0, 0, 0), -1);
    due.is("buy(7)", x.buy(7), 0);
    due.is("buy(8)", x.buy(8), -1);
  }

  // "CARE (0 to 5 days)"
  private static void careZeroToFive() {
    for (int care : new int[] {MIN, -1, 6, MAX}) {
      due.is("kind of CARE " + care, new ToolHouse().kind(care, 0, 0), -1);
    }
    for (int care = 0; care <= 5; care++) {
      ToolHouse x = new ToolHouse();
      due.is("kind of CARE " + care, x.kind(care, 0, 0), 0);
    }
  }

  // "FEATURES (bits, 0 to 255)"
  private static void featuresZeroTo255() {
    for (int features : new int[] {MIN, -1, 256, 257, MAX}) {
      due.is("kind of FEATURES " + features, new ToolHouse().kind(0, features, 0), -1);
    }
    for (int bit = 0; bit < 8; bit++) {
      ToolHouse x = new ToolHouse();
      x.kind(0, 0, 0);
      due.is("kind without the bit", x.kind(0, 255 - (1 << bit), 0), 1);
      due.is("kind with the bit alone", x.kind(0, 1 << bit, 0), 2);
      due.is("kind with all", x.kind(0, 255, 0), 3);
      x.thing(1);
      x.thing(2);
      x.thing(3);
      x.member();
      x.ask(0, 0, 1 << bit, 0, 0, 0);
      x.ask(0, 0, 1 << bit, 0, 0, 0);
      x.ask(0, 0, 1 << bit, 0, 0, 0);
      due.is("asks that need bit " + bit, x.plan(), 2);
      due.of(x, 0, 1, 1);
      due.of(x, 1, 1, 2);
    }
  }

  // "a FEE (0 to 100 a day)"
  private static void feeZeroToHundred() {
    for (int fee : new int[] {MIN, -1, 101, MAX}) {
      due.is("kind of FEE " + fee, new ToolHouse().kind(0, 0, fee), -1);
    }
    for (int fee : new int[] {0, 1, 99, 100}) {
      ToolHouse x = new ToolHouse();
      due.is("kind of FEE " + fee, x.kind(0, 0, fee), 0);
      x.thing(0);
      x.member();
      x.ask(0, 0, 0, 0, 2, 0);
      x.plan();
      x.out(0);
      x.back(0);
      due.is("FEES of three days of " + fee, x.memberOf(0, 1), 3 * fee);
    }
  }

  // "THINGS, at most 12, numbered as they come" (promise 3: "NONE: .. twelve are there")
  private static void thingsAtMostTwelve() {
    ToolHouse x = new ToolHouse();
    x.kind(0, 0, 0);
    x.member();
    for (int i = 0; i < 12; i++) {
      due.is("count(1)", x.count(1), i);
      due.is("look of thing " + i + " to come", x.look(i), false);
      due.is("thing " + i, x.thing(0), i);
      due.is("look of thing " + i, x.look(i), true);
    }
    due.is("a thirteenth thing", x.thing(0), -1);
    due.is("count(1)", x.count(1), 12);
    due.is("look(12)", x.look(12), false);
    int booked = 0;
    for (int i = 0; i < 13; i++) {
      x.ask(0, 0, 0, 0, 0, 0);
      booked += x.plan();
    }
    due.is("kept of 13", booked, 12);
    due.of(x, 11, 1, 11);
    due.of(x, 12, 0, 2);
  }

  // "are each of a KIND" (promise 3: "NONE: no such KIND")
  private static void thingsAreOfAKind() {
    ToolHouse x = new ToolHouse();
    due.is("thing(0) without kinds", x.thing(0), -1);
    x.kind(0, 0, 0);
    for (int kind : new int[] {MIN, -1, 1, 8, MAX}) {
      due.is("thing(" + kind + ")", x.thing(kind), -1);
    }
    due.is("count(1)", x.count(1), 0);
    due.is("thing(0)", x.thing(0), 0);
  }

  // "MEMBERS, at most 10." (promise 4: "NONE: ten are there")
  private static void membersAtMostTen() {
    ToolHouse x = new ToolHouse();
    x.kind(0, 0, 0);
    for (int i = 0; i < 10; i++) {
      due.is("count(2)", x.count(2), i);
      due.is("ask of member " + i + " to come", x.ask(i, 0, 0, 0, 0, 0), -1);
      due.is("member " + i, x.member(), i);
    }
    due.is("an eleventh member", x.member(), -1);
    due.is("count(2)", x.count(2), 10);
    due.is("ask of member 9", x.ask(9, 0, 0, 0, 0, 0), 0);
    due.is("ask of member 10", x.ask(10, 0, 0, 0, 0, 0), -1);
    due.is("work(10, 1)", x.work(10, 1), -1);
    due.is("memberOf(10, 0)", x.memberOf(10, 0), -1);
  }

  // "LAWS, at most 20" (promise 7: "NONE: 20 are there")
  private static void lawsAtMostTwenty() {
    ToolHouse x = houseOf(1);
    for (int i = 0; i < 20; i++) {
      due.is("count(3)", x.count(3), i);
      due.is("law " + i, Due.tell(x, "every 0 " + i + ";"), i);
    }
    due.is("the 21st law", Due.tell(x, "every 0 20;"), -1);
    due.is("count(3)", x.count(3), 20);
    due.is("days of the 20th", x.count(20), 19);
  }

  // "each in force from the DAY on which it is told"
  private static void lawIsInForceFromItsDay() {
    ToolHouse x = houseOf(1);
    x.days(3);
    due.is("lawful ahead of the law", x.lawful(0, 3), 1);
    x.ask(0, 0, 0, 3, 3, 0);
    x.plan();
    Due.tell(x, "every 0 0;");
    due.is("lawful on the day of the law", x.lawful(0, 3), 0);
    due.is("out on the day of the law", x.out(0), -5);
  }

  // "in force is the last told"
  private static void lastToldIsInForce() {
    ToolHouse x = houseOf(2);
    Due.tell(x, "every 0 0;");
    Due.tell(x, "every 1 0;");
    due.is("days of kind 0", x.count(20), -1);
    due.is("days of kind 1", x.count(21), 0);
    due.is("lawful of kind 0", x.lawful(0, 0), 1);
    due.is("lawful of kind 1", x.lawful(1, 0), 0);
    Due.tell(x, "every 0 9;");
    due.is("days of kind 0", x.count(20), 9);
    due.is("days of kind 1", x.count(21), -1);
  }

  // "TEXT, at most 200 bytes"
  private static void textAtMost200Bytes() {
    StringBuilder text = new StringBuilder();
    for (int i = 0; i < 20; i++) {
      text.append("every 0 ").append(i % 10).append(';');
    }
    due.is("bytes", text.length(), MOST_BYTES);
    good(text.toString(), 9);
    good(filled("every 0 5;", ' '), 5);
    text.setCharAt(MOST_BYTES - 1, '!');
    fault(text.toString(), 1, MOST_BYTES - 1);
  }

  // "{every NUMBER NUMBER ;}": none at all is a TEXT, too.
  private static void textOfNoRules() {
    good("", -1);
    good(" ", -1);
    good("\n", -1);
    good(filled("", '\n'), -1);
    due.is("law of a new object", new ToolHouse().law(), 0);
  }

  // "{every NUMBER NUMBER ;}": as many as there is room for.
  private static void textOfManyRules() {
    ToolHouse x = houseOf(8);
    StringBuilder text = new StringBuilder();
    for (int kind = 0; kind < 8; kind++) {
      text.append("every ").append(kind).append(' ').append(900 + kind).append(';');
    }
    due.is("law of eight", Due.tell(x, text.toString()), 0);
    for (int kind = 0; kind < 8; kind++) {
      due.is("days of kind " + kind, x.count(20 + kind), 900 + kind);
    }
  }

  // "may go out only if looked at no more than so many days ahead of the loan's last day"
  private static void lookNoMoreThanSoManyDaysAhead() {
    for (int days : new int[] {0, 1, 2, 14, 60, 99, 998, 999}) {
      ToolHouse x = houseOf(1);
      x.days(7);
      x.look(0);
      Due.tell(x, "every 0 " + days + ";");
      due.is("a look " + days + " days ahead", x.lawful(0, 7 + days), 1);
      due.is("a look a day more than " + days + " ahead", x.lawful(0, 8 + days), 0);
    }
    for (int days = 0; days <= 5; days++) {
      ToolHouse x = houseOf(1);
      x.look(0);
      x.ask(0, 0, 0, 1, 3, 0);
      x.plan();
      x.days(1);
      Due.tell(x, "every 0 " + days + ";");
      due.is("out with a look 3 days ahead, wanted " + days, x.out(0), days < 3 ? -5 : 0);
    }
  }

  /** One that was never looked at was not looked at 999 days ahead, either; a look on day 0 is one. */
  private static void lookThatNeverWas() {
    ToolHouse x = houseOf(1);
    Due.tell(x, "every 0 999;");
    due.is("lawful without a look", x.lawful(0, 0), 0);
    x.ask(0, 0, 0, 0, 0, 0);
    x.plan();
    due.is("out without a look", x.out(0), -5);
    x.look(0);
    due.is("lawful with a look", x.lawful(0, 999), 1);
    due.is("out with a look", x.out(0), 0);
  }

  // "of one KIND the later one holds"
  private static void ofOneKindTheLaterHolds() {
    good("every 0 5;every 0 3;", 3);
    good("every 0 3;every 0 5;", 5);
    ToolHouse x = houseOf(2);
    Due.tell(x, "every 0 5;every 1 6;every 0 7;every 1 0;");
    due.is("days of kind 0", x.count(20), 7);
    due.is("days of kind 1", x.count(21), 0);
  }

  // "without one it needs no looks"
  private static void withoutOneNoLooks() {
    ToolHouse x = houseOf(2);
    due.is("lawful without laws", x.lawful(0, MAX), 1);
    Due.tell(x, "every 1 0;");
    due.is("lawful of a kind without", x.lawful(0, MAX), 1);
    Due.tell(x, "");
    due.is("lawful under a law of nothing", x.lawful(1, MAX), 1);
    x.ask(0, 1, 0, 0, 0, 0);
    x.plan();
    due.is("out without a look", x.out(0), 0);
  }

  // "blanks (32, 10)"
  private static void blanksAreTwoBytesAlone() {
    good("every 0 5;", 5);
    good("every\n0\n5\n;", 5);
    for (char one : new char[] {0, 1, 8, 9, 11, 12, 13, 31, 33, 95, 127, 128, 133, 138, 160, 255}) {
      fault(one + "every 0 5;", 1, 0);
      fault("every" + one + "0 5;", 1, 5);
      fault("every 0" + one + "5;", 1, 7);
      fault("every 0 5" + one + ";", 1, 9);
      fault("every 0 5;" + one, 1, 10);
    }
  }

  // "between where one likes": none where tokens end by themselves, many everywhere, none within a token
  private static void blanksWhereOneLikes() {
    good("every0 5;every0 6;", 6);
    good("  \n every \n\n 0  \n5\n\n\n;  \n every 0 7 \n ; \n", 7);
    fault("ev ery 0 5;", 1, 0);
    fault("every 0 5\n6;", 1, 10);
    fault("every 00;", 1, 8);
  }

  // "WORDS (small letters, as many as stand together)"
  private static void wordsAsManyAsStandTogether() {
    for (String word : new String[] {"ever", "veryy", "everyy", "everya", "everyz", "aevery", "zevery", "evert",
        "fvery", "everyevery", "e", "a", "z", "evary", "yreve"}) {
      fault(word + " 0 5;", 1, 0);
      fault("every 0 5; " + word + " 0 5;", 1, 11);
    }
  }

  /** The bytes ahead of a and behind z are no letters: the word ends there, and they are the fault. */
  private static void bytesBesideLettersEndAWord() {
    fault("every` 0 5;", 1, 5);
    fault("every{ 0 5;", 1, 5);
    fault("everyA 0 5;", 1, 5);
    fault("everyZ 0 5;", 1, 5);
    fault("EVERY 0 5;", 1, 0);
    fault("eVery 0 5;", 1, 0);
  }

  // "NUMBERS (1 to 3 digits)"
  private static void numbersOfOneToThreeDigits() {
    good("every 0 0;", 0);
    good("every 0 9;", 9);
    good("every 0 10;", 10);
    good("every 0 99;", 99);
    good("every 0 100;", 100);
    good("every 0 999;", 999);
    good("every 0 000;", 0);
    good("every 0 090;", 90);
    good("every 00 1;", 1);
    good("every 000 1;", 1);
    fault("every 0 ;", 1, 8);
    fault("every 0 0000;", 1, 8);
    fault("every 0000 1;", 1, 6);
  }

  private static void bytesBesideDigitsEndANumber() {
    fault("every 0/ 5;", 1, 7);
    fault("every 0: 5;", 1, 7);
    fault("every 0 5/;", 1, 9);
    fault("every 0 5:;", 1, 9);
    fault("every / 5;", 1, 6);
    fault("every : 5;", 1, 6);
  }

  // "the SIGN ;": of all bytes it alone ends a rule, but for digits (the number's) and blanks
  private static void everyByteAsASign() {
    for (char one = 0; one < 256; one++) {
      String text = "every 0 1" + one;
      if (one == ';') {
        good(text, 1);
      } else if (one == ' ' || one == '\n' || one >= '0' && one <= '9') {
        fault(text, 1, 10);
      } else {
        fault(text, 1, 9);
      }
    }
  }

  // "FAULTS, the first from the left"
  private static void firstFaultFromTheLeft() {
    fault("? every 7 1;", 1, 0);
    fault("every 7 ?", 2, 6);
    fault("every 7", 2, 6);
    fault("every 7 1000;", 2, 6);
    fault("every 0 1000; every 7 1;", 1, 8);
    fault("every 0 1; every 7 1; every 0000 1;", 2, 17);
    fault("every 0 1; every 0000 1; every 7 1;", 1, 17);
  }

  // "of one place the least"
  private static void ofOnePlaceTheLeast() {
    fault("every 1000 1;", 1, 6);
    fault("every 9999", 1, 6);
    fault(new ToolHouse(), "every 0000 1;", 1, 6);
  }

  // "1 a byte or TOKEN with which no TEXT goes on"
  private static void tokenWithWhichNoTextGoesOn() {
    String[] begun = {"", "every ", "every 0 ", "every 0 1 ", "every 0 1; "};
    String[][] wrong = {{"0", ";", "x", "?", "1000"}, {"every", ";", "x", "?", "1000"},
        {"every", ";", "x", "?", "1000"}, {"every", "0", "x", "?", "1000"}, {"0", ";", "x", "?", "1000"}};
    for (int i = 0; i < begun.length; i++) {
      for (String token : wrong[i]) {
        fault(begun[i] + token + " 0 1;", 1, begun[i].length());
        fault(begun[i] + token, 1, begun[i].length());
      }
    }
  }

  // "(a longer NUMBER at its first byte"
  private static void longerNumberAtItsFirstByte() {
    fault("every 0 1234;", 1, 8);
    fault("every 0 12345678901234567890;", 1, 8);
    fault("every 12345678901234567890 1;", 1, 6);
    fault(filled("every 0 ", '9'), 1, 8);
    fault(filled("every ", '0'), 1, 6);
    fault(filled("", '1'), 1, 0);
  }

  // "the end: at how many bytes there are)"
  private static void endAtHowManyBytesThereAre() {
    String[] begun = {"every", "every 0", "every 0 1", "every 0 1;every", "every 0 1;\nevery 0 22"};
    for (String text : begun) {
      fault(text, 1, text.length());
      fault(text + " ", 1, text.length() + 1);
      fault(text + " \n\n", 1, text.length() + 3);
    }
  }

  private static void endOfAFullTape() {
    fault(filled("every", ' '), 1, MOST_BYTES);
    fault(filled("every 0", '\n'), 1, MOST_BYTES);
    fault(filled("every 0 1", ' '), 1, MOST_BYTES);
    fault(filled("every 0 1", ' ').substring(1), 1, 0);
  }

  // "2 a NUMBER that is no KIND's where one should stand"
  private static void numberThatIsNoKinds() {
    fault(new ToolHouse(), "every 0 1;", 2, 6);
    for (int kinds = 1; kinds <= 8; kinds++) {
      ToolHouse x = houseOf(kinds);
      fault(x, "every " + kinds + " 1;", 2, 6);
      fault(x, "every 999 1;", 2, 6);
      due.is("the last kind of " + kinds, Due.tell(x, "every " + (kinds - 1) + " 1;"), 0);
    }
    fault("\n every \n007 1;", 2, 9);
  }

  private static void numberOfDaysIsNoKinds() {
    good("every 0 8;", 8);
    good("every 0 999;", 999);
  }

  // "A TEXT with a FAULT changes nothing."
  private static void faultChangesNothing() {
    ToolHouse x = houseOf(2);
    Due.tell(x, "every 0 5;");
    fault(x, "every 0 1;every 1 2;every 0 3", 1, 29);
    fault(x, "every 0 1;every 1 2;every 2 3;", 2, 26);
    due.is("days of kind 0", x.count(20), 5);
    due.is("days of kind 1", x.count(21), -1);
    due.is("laws", x.count(3), 1);
    due.is("the next law", Due.tell(x, ""), 1);
  }

  // Promise 1: "an empty TAPE"
  private static void newTapeIsEmpty() {
    ToolHouse x = new ToolHouse();
    due.is("bytes", x.count(6), 0);
    due.is("end(1)", x.end(1), -1);
    due.is("end(0)", x.end(0), 0);
  }

  // Promise 5: "of each number the highest first"
  private static void feedTheHighestFirst() {
    // "ever" "y 0 " "123;" "    " "   ?"
    int[] five = {0x65766572, 0x79203020, 0x3132333b, 0x20202020, 0x2020203f};
    ToolHouse x = houseOf(1);
    due.is("feed", x.feed(five[0], five[1], five[2], five[3], five[4]), 20);
    due.is("law", x.law(), -2);
    due.is("place of the 20th byte", x.place(), 19);
    x.feed(five[0], five[1], five[2], five[3], five[4]);
    x.end(19);
    due.is("law without it", x.law(), 0);
    due.is("days", x.count(20), 123);
  }

  /** A byte of 128 to 255 in each of the four places of a number is itself, and no letter, digit or blank. */
  private static void feedOfSignedNumbers() {
    int[] numbers = {0x8a202020, 0x208a2020, 0x20208a20, 0x2020208a, 0xffffffff, 0xa0202020, 0xbb202020};
    int[] places = {0, 1, 2, 3, 0, 0, 0};
    for (int i = 0; i < numbers.length; i++) {
      ToolHouse x = new ToolHouse();
      x.feed(numbers[i], 0x20202020, 0x20202020, 0x20202020, 0x20202020);
      due.is("law", x.law(), -2);
      due.is("place in " + Integer.toHexString(numbers[i]), x.place(), places[i]);
    }
  }

  // Promise 5: "NONE if these would be more than 200"
  private static void feedNoMoreThan200() {
    ToolHouse x = new ToolHouse();
    for (int i = 1; i <= 10; i++) {
      due.is("feed " + i, x.feed(MIN, MAX, 0, -1, i), 20 * i);
    }
    due.is("feed at 200", x.feed(0, 0, 0, 0, 0), -1);
    for (int n = 199; n > 180; n--) {
      x.end(n);
      due.is("feed at " + n, x.feed(0, 0, 0, 0, 0), -1);
      due.is("bytes", x.count(6), n);
    }
    x.end(180);
    due.is("feed at 180", x.feed(0, 0, 0, 0, 0), 200);
    x.end(179);
    due.is("feed at 179", x.feed(0, 0, 0, 0, 0), 199);
  }

  // Promise 5: "Twenty bytes come behind the TAPE"
  private static void feedBehindWhatStaysOfTheTape() {
    ToolHouse x = houseOf(1);
    Due.feed(x, "every 0 1XXXXXXXX");
    x.end(9);
    due.is("feed", x.feed(0x323b2020, 0x20202020, 0x20202020, 0x20202020, 0x20202020), 29);
    due.is("law of both", x.law(), 0);
    due.is("days", x.count(20), 12);
  }

  // Promise 6: "The TAPE has its first n bytes alone: n"
  private static void endOfTheFirstBytesAlone() {
    ToolHouse x = houseOf(1);
    Due.feed(x, "every 0 12;???");
    due.is("end of all", x.end(14), 14);
    due.is("end(11)", x.end(11), 11);
    due.is("bytes", x.count(6), 11);
    due.is("end(12)", x.end(12), -1);
    due.is("law", x.law(), 0);
    due.is("days", x.count(20), 12);
  }

  // Promise 6: "NONE if it has less, or n is below 0"
  private static void endBelowZeroOrBeyond() {
    ToolHouse x = new ToolHouse();
    x.feed(0, 0, 0, 0, 0);
    for (int n : new int[] {MIN, -1, 21, 200, 201, MAX}) {
      due.is("end(" + n + ")", x.end(n), -1);
      due.is("bytes", x.count(6), 20);
    }
    due.is("end(20)", x.end(20), 20);
    due.is("end(0)", x.end(0), 0);
    due.is("bytes", x.count(6), 0);
  }

  // Promise 7: "The TAPE (empty then) is a LAW"
  private static void lawEmptiesTheTape() {
    ToolHouse x = houseOf(1);
    for (String text : new String[] {"every 0 1;", "every 0", "every 1 1;", ""}) {
      Due.tell(x, text);
      due.is("bytes behind '" + text + "'", x.count(6), 0);
    }
    Due.tell(x, "every 0 7;????");
    due.is("a text behind a longer one", Due.tell(x, "every 0 7"), -2);
    due.is("its place", x.place(), 9);
  }

  // Promise 7: "its number; with a FAULT 1 less than minus its kind (-2, -3)"
  private static void lawIsNumberedWithoutFaults() {
    ToolHouse x = houseOf(1);
    due.is("fault 1", Due.tell(x, "x"), -2);
    due.is("fault 2", Due.tell(x, "every 1 1;"), -3);
    due.is("the first law", Due.tell(x, ""), 0);
    due.is("fault 1", Due.tell(x, "x"), -2);
    due.is("the second law", Due.tell(x, ""), 1);
  }

  // Promise 7: "NONE: 20 are there (the TAPE stays)"; promise 8: "the latest law() that was not NONE"
  private static void lawAtTwentyLeavesTheTape() {
    ToolHouse x = houseOf(1);
    for (int i = 0; i < 19; i++) {
      x.law();
    }
    fault(x, "every 0 ?", 1, 8);
    due.is("the 20th law", Due.tell(x, "every 0 4;"), 19);
    due.is("its place", x.place(), -1);
    Due.feed(x, "every 0 ?");
    due.is("a text with a fault", x.law(), -1);
    due.is("its place", x.place(), -1);
    due.is("bytes", x.count(6), 9);
    due.is("end(8)", x.end(8), 8);
    due.is("feed", x.feed(0, 0, 0, 0, 0), 28);
    due.is("days", x.count(20), 4);
  }

  // Promise 8: "The place of the FAULT of the latest law() that was not NONE; NONE without one."
  private static void placeOfTheLatestThatWasNotNone() {
    ToolHouse x = houseOf(1);
    due.is("place ahead of laws", x.place(), -1);
    fault(x, "?", 1, 0);
    due.is("place again", x.place(), 0);
    Due.feed(x, "every 0 5;");
    due.is("place with a text fed", x.place(), 0);
    due.is("law", x.law(), 0);
    due.is("place without a fault", x.place(), -1);
    fault(x, " every 1", 2, 7);
  }

  // Promise 9: "false: no such one, it is OUT"
  private static void lookAtNoSuchOneOrOneThatIsOut() {
    ToolHouse x = houseOf(2);
    for (int thing : new int[] {MIN, -1, 2, 12, MAX}) {
      due.is("look(" + thing + ")", x.look(thing), false);
    }
    due.is("look(1)", x.look(1), true);
    x.ask(0, 0, 0, 0, 1, 0);
    due.is("look while PENDING", x.look(0), true);
    x.plan();
    due.is("look while BOOKED", x.look(0), true);
    x.out(0);
    due.is("look while OUT", x.look(0), false);
    due.is("look at the other", x.look(1), true);
    x.days(9);
    due.is("look while LATE", x.look(0), false);
    due.is("its last look", x.thingOf(0, 1), 0);
    x.back(0);
    due.is("look behind BACK", x.look(0), true);
    due.is("its last look", x.thingOf(0, 1), 9);
  }

  // Promise 9: "(on this DAY)"
  private static void lookOnThisDay() {
    ToolHouse x = houseOf(1);
    due.is("without a look", x.thingOf(0, 1), -1);
    x.look(0);
    due.is("on day 0", x.thingOf(0, 1), 0);
    x.days(1);
    due.is("a day later", x.thingOf(0, 1), 0);
    x.look(0);
    due.is("on day 1", x.thingOf(0, 1), 1);
  }

  // Promise 10: "NONE: no such THING"
  private static void lawfulOfNoSuchThing() {
    ToolHouse x = houseOf(2);
    for (int thing : new int[] {MIN, -1, 2, 12, MAX}) {
      due.is("lawful(" + thing + ", 0)", x.lawful(thing, 0), -1);
    }
    due.is("lawful(1, 0)", x.lawful(1, 0), 1);
  }

  // Promise 10: "NONE: .. the day is ahead of DAY"
  private static void lawfulOfADayAheadOfDay() {
    ToolHouse x = houseOf(1);
    x.days(4);
    due.is("lawful(0, 4)", x.lawful(0, 4), 1);
    for (int last : new int[] {3, 0, -1, MIN}) {
      due.is("lawful(0, " + last + ")", x.lawful(0, last), -1);
    }
    Due.tell(x, "every 0 9;");
    due.is("lawful(0, 4) without a look", x.lawful(0, 4), 0);
    due.is("lawful(0, 3) without a look", x.lawful(0, 3), -1);
  }

  /** The farthest day is no wrap-around: a look is never that near. */
  private static void lawfulOfTheFarthestDay() {
    ToolHouse x = houseOf(1);
    Due.tell(x, "every 0 999;");
    due.is("lawful(0, MAX) without a look", x.lawful(0, MAX), 0);
    x.look(0);
    due.is("lawful(0, MAX)", x.lawful(0, MAX), 0);
    due.is("lawful(0, 1000)", x.lawful(0, 1000), 0);
    due.is("lawful(0, 999)", x.lawful(0, 999), 1);
  }
}
