/** Promises 5 to 10: the tape, laws and their faults, looks, and what the law in force lets go out. */
public final class LawTest {
  private static final int MAX = Integer.MAX_VALUE;
  private static final int MIN = Integer.MIN_VALUE;
  private static final Due due = new Due();

  public static void main(String[] args) {
    promise5Feed();
    promise5BytesInOrder();
    promise6End();
    promise7Texts();
    promise7KindsThatAreThere();
    promise7EmptiesTheTape();
    promise7FaultChangesNothing();
    promise7TwentyLaws();
    promise8Faults();
    promise8LatestLaw();
    promise9Look();
    promise10Lawful();
    promise10LawOfADay();
    due.finish();
  }

  private static ToolHouse houseOf(int kinds) {
    ToolHouse x = new ToolHouse();
    for (int i = 0; i < kinds; i++) {
      x.kind(0, 0, 1);
      x.thing(i);
    }
    x.member();
    return x;
  }

  private static void promise5Feed() {
    ToolHouse x = new ToolHouse();
    for (int i = 1; i <= 10; i++) {
      due.is("feed " + i, x.feed(0, -1, MIN, MAX, i), 20 * i);
      due.is("bytes", x.count(6), 20 * i);
    }
    due.is("feed beyond 200", x.feed(0, 0, 0, 0, 0), -1);
    due.is("bytes", x.count(6), 200);
    x.end(181);
    due.is("feed at 181", x.feed(0, 0, 0, 0, 0), -1);
    due.is("bytes", x.count(6), 181);
    x.end(180);
    due.is("feed at 180", x.feed(0, 0, 0, 0, 0), 200);
  }

  private static void promise5BytesInOrder() {
    ToolHouse x = houseOf(1);
    // "ever" "y 0 " "321;" "ever" "y 0;": the last sign stands where a number should.
    x.feed(0x65766572, 0x79203020, 0x3332313b, 0x65766572, 0x7920303b);
    due.is("law of five numbers", x.law(), -2);
    due.is("its place", x.place(), 19);
    x.feed(0x65766572, 0x79203020, 0x3332313b, 0x65766572, 0x79203020);
    x.feed(0x3132303b, 0x20202020, 0x0a0a0a0a, 0x20202020, 0x20202020);
    due.is("law of ten numbers", x.law(), 0);
    due.is("its days", x.count(20), 120);
    x.feed(0x65766572, 0x79203020, 0x3332313b, 0xff000000, 0);
    due.is("a byte of 255", x.law(), -2);
    due.is("its place", x.place(), 12);
  }

  private static void promise6End() {
    ToolHouse x = new ToolHouse();
    due.is("end(0) of an empty tape", x.end(0), 0);
    due.is("end(1) of an empty tape", x.end(1), -1);
    x.feed(0, 0, 0, 0, 0);
    due.is("end(21)", x.end(21), -1);
    due.is("end(MAX)", x.end(MAX), -1);
    due.is("end(-1)", x.end(-1), -1);
    due.is("end(MIN)", x.end(MIN), -1);
    due.is("bytes", x.count(6), 20);
    due.is("end(20)", x.end(20), 20);
    due.is("end(7)", x.end(7), 7);
    due.is("bytes", x.count(6), 7);
    due.is("end(8)", x.end(8), -1);
    due.is("feed", x.feed(0, 0, 0, 0, 0), 27);
  }

  private static void told(ToolHouse x, String text, int answer, int place, int days0, int days1) {
    due.is("law '" + text + "'", Due.tell(x, text), answer);
    due.is("place in '" + text + "'", x.place(), place);
    due.is("days of kind 0 behind '" + text + "'", x.count(20), days0);
    due.is("days of kind 1 behind '" + text + "'", x.count(21), days1);
  }

  private static void good(ToolHouse x, String text, int number, int days0, int days1) {
    told(x, text, number, -1, days0, days1);
  }

  private static void promise7Texts() {
    ToolHouse x = houseOf(2);
    good(x, "every 0 10;", 0, 10, -1);
    good(x, "every 1 0 ;", 1, -1, 0);
    good(x, "every0 999;every 1 1;", 2, 999, 1);
    good(x, "every 0 1;every 0 2;every 1 3;every 0 4;", 3, 4, 3);
    good(x, "\n every\n000\n \n007\n;\n \n", 4, 7, -1);
    good(x, "every 001 5;", 5, -1, 5);
    told(x, "every 0 3", -2, 9, -1, 5);
    good(x, "   \n", 6, -1, -1);
    good(x, "every 1 12;", 7, -1, 12);
    good(x, "", 8, -1, -1);
    StringBuilder full = new StringBuilder("every 0 12;");
    while (full.length() < 200) {
      full.append(full.length() % 2 == 0 ? ' ' : '\n');
    }
    good(x, full.toString(), 9, 12, -1);
    due.is("laws", x.count(3), 10);
  }

  private static void promise7KindsThatAreThere() {
    ToolHouse x = houseOf(1);
    due.is("law of a kind to come", Due.tell(x, "every 1 5;"), -3);
    x.kind(0, 0, 0);
    due.is("law of a kind that came", Due.tell(x, "every 1 5;"), 0);
    x.kind(0, 0, 0);
    due.is("days of a kind behind the law", x.count(22), -1);
  }

  private static void promise7EmptiesTheTape() {
    ToolHouse x = houseOf(1);
    Due.tell(x, "every 0 1;");
    due.is("bytes behind a law", x.count(6), 0);
    Due.tell(x, "every 0 1");
    due.is("bytes behind a fault", x.count(6), 0);
  }

  private static void promise7FaultChangesNothing() {
    ToolHouse x = houseOf(2);
    Due.tell(x, "every 0 10;");
    due.is("law with a fault behind a good part", Due.tell(x, "every 0 3; every 1 4; every 2 5;"), -3);
    due.is("laws", x.count(3), 1);
    due.is("days of kind 0", x.count(20), 10);
    due.is("days of kind 1", x.count(21), -1);
  }

  private static void promise7TwentyLaws() {
    ToolHouse x = houseOf(1);
    for (int i = 0; i < 20; i++) {
      due.is("law " + i, Due.tell(x, "every 0 " + i + ";"), i);
      if (i % 5 == 0) {
        due.is("a fault between", Due.tell(x, "x"), -2);
      }
    }
    due.is("a fault at 20 laws", Due.tell(x, ";"), -1);
    due.is("bytes stay", x.count(6), 1);
    due.is("place stays", x.place(), -1);
    x.end(0);
    due.is("a law at 20 laws", Due.tell(x, "every 0 500;"), -1);
    due.is("bytes stay", x.count(6), 12);
    due.is("laws", x.count(3), 20);
    due.is("days", x.count(20), 19);
  }

  private static void fault(String text, int kind, int place) {
    ToolHouse x = houseOf(2);
    due.is("fault of '" + text + "'", Due.tell(x, text), -1 - kind);
    due.is("place in '" + text + "'", x.place(), place);
    due.is("laws behind '" + text + "'", x.count(3), 0);
  }

  private static void promise8Faults() {
    fault("every", 1, 5);
    fault("every ", 1, 6);
    fault("every 0", 1, 7);
    fault("every 0 1", 1, 9);
    fault("every 0 1 \n", 1, 11);
    fault("every 0 1;every", 1, 15);
    fault("every 0;", 1, 7);
    fault("every;", 1, 5);
    fault("every every 0 1;", 1, 6);
    fault("every 0 every;", 1, 8);
    fault("every 0 1 1;", 1, 10);
    fault("every 0 1 every 0 1;", 1, 10);
    fault("every 0 1;;", 1, 10);
    fault("0 1;", 1, 0);
    fault(";", 1, 0);
    fault(" \n;", 1, 2);
    fault("ever 0 1;", 1, 0);
    fault("everyy 0 1;", 1, 0);
    fault("everyevery 0 1;", 1, 0);
    fault("everya 0 1;", 1, 0);
    fault("everyz 0 1;", 1, 0);
    fault("every 0 12every;", 1, 10);
    fault("  each 0 1;", 1, 2);
    fault("Every 0 1;", 1, 0);
    fault("everY 0 1;", 1, 0);
    fault("every 0 1.", 1, 9);
    fault("every 0 -1;", 1, 8);
    fault("every\t0 1;", 1, 5);
    fault("every 0\r1;", 1, 7);
    fault("every 0 1; \u0000", 1, 11);
    fault("every 0 1; \u00e9", 1, 11);
    fault("every 0 1;{", 1, 10);
    fault("every `", 1, 6);
    fault("every /", 1, 6);
    fault("every :", 1, 6);
    fault("every 0 1000;", 1, 8);
    fault("every 0000 1;", 1, 6);
    fault("every 9999 1;", 1, 6);
    fault("every 0 1;1234", 1, 10);
    fault("every 0 1 1234", 1, 10);
    fault("every 2 1;", 2, 6);
    fault("every 999 1;", 2, 6);
    fault("every 0 5;every\n 2", 2, 17);
    fault("every 2 1000;", 2, 6);
    fault("every 2 ?", 2, 6);
    fault("every 1000 2", 1, 6);
    fault("? every 2", 1, 0);
    fault("every 0 999;every 1 1x", 1, 21);
  }

  private static void promise8LatestLaw() {
    ToolHouse x = houseOf(1);
    due.is("place at first", x.place(), -1);
    Due.tell(x, "every 0;");
    due.is("place of a fault", x.place(), 7);
    due.is("place again", x.place(), 7);
    Due.feed(x, "every 0 5;");
    due.is("place ahead of law()", x.place(), 7);
    x.law();
    due.is("place of a good law", x.place(), -1);
    Due.tell(x, "every 7 5;");
    due.is("place of another fault", x.place(), 6);
  }

  private static void promise9Look() {
    ToolHouse x = houseOf(2);
    due.is("last look at first", x.thingOf(0, 1), -1);
    due.is("look(0)", x.look(0), true);
    due.is("last look", x.thingOf(0, 1), 0);
    x.days(3);
    due.is("last look then", x.thingOf(0, 1), 0);
    due.is("look(0) again", x.look(0), true);
    due.is("last look again", x.thingOf(0, 1), 3);
    due.is("the other one's", x.thingOf(1, 1), -1);
    due.is("look(2)", x.look(2), false);
    due.is("look(-1)", x.look(-1), false);
    due.is("look(MIN)", x.look(MIN), false);
    due.is("look(MAX)", x.look(MAX), false);
    x.ask(0, 0, 0, 3, 5, 0);
    x.plan();
    due.is("look while BOOKED", x.look(0), true);
    x.out(0);
    x.days(1);
    due.is("look while OUT", x.look(0), false);
    due.is("last look while OUT", x.thingOf(0, 1), 3);
    x.back(0);
    due.is("look behind BACK", x.look(0), true);
    due.is("last look behind BACK", x.thingOf(0, 1), 4);
  }

  private static void promise10Lawful() {
    ToolHouse x = houseOf(2);
    due.is("lawful without law", x.lawful(0, 0), 1);
    due.is("lawful(0, MAX) without law", x.lawful(0, MAX), 1);
    due.is("lawful(0, -1)", x.lawful(0, -1), -1);
    due.is("lawful(2, 0)", x.lawful(2, 0), -1);
    due.is("lawful(-1, 0)", x.lawful(-1, 0), -1);
    x.days(5);
    x.look(0);
    Due.tell(x, "every 0 7;");
    due.is("last day of what is wanted", x.lawful(0, 12), 1);
    due.is("a day more", x.lawful(0, 13), 0);
    due.is("lawful(0, MAX)", x.lawful(0, MAX), 0);
    due.is("a kind without", x.lawful(1, MAX), 1);
    due.is("today", x.lawful(0, 5), 1);
    due.is("yesterday", x.lawful(0, 4), -1);
    due.is("lawful(0, MIN)", x.lawful(0, MIN), -1);
    x.days(8);
    due.is("days later", x.lawful(0, 13), 0);
    due.is("ahead of DAY", x.lawful(0, 12), -1);
    Due.tell(x, "every 1 100;");
    due.is("another law in force", x.lawful(0, 500), 1);
    due.is("never looked at", x.lawful(1, 13), 0);
  }

  private static void promise10LawOfADay() {
    ToolHouse x = houseOf(1);
    x.look(0);
    Due.tell(x, "every 0 0;");
    due.is("0 days, last day today", x.lawful(0, 0), 1);
    due.is("0 days, last day tomorrow", x.lawful(0, 1), 0);
    x.ask(0, 0, 0, 0, 0, 0);
    x.plan();
    x.out(0);
    due.is("of one that is OUT", x.lawful(0, 0), 1);
    due.is("of one that is OUT", x.lawful(0, 1), 0);
  }
}
