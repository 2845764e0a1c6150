/** All that a house tells of itself as one text, so that two houses can be held against one another. */
final class Story {
  // A house answers 512 calls, so of many things fewer days are seen.
  private static final int DAYS_SEEN = 10;
  private static final int DAYS_SEEN_OF_MANY = 3;

  private Story() {}

  /** Some 200 calls for a house of three things and eight asks. */
  static String of(ToolHouse x) {
    return "place " + x.place() + withoutPlace(x);
  }

  static String withoutPlace(ToolHouse x) {
    StringBuilder said = new StringBuilder();
    for (int what = 0; what <= 27; what++) {
      said.append(" count ").append(what).append(" is ").append(x.count(what)).append('\n');
    }
    for (int kind = 0; kind < x.count(0); kind++) {
      said.append("buy ").append(kind).append(" is ").append(x.buy(kind)).append('\n');
    }
    for (int member = 0; member < x.count(2); member++) {
      said.append("member ").append(member).append(':');
      for (int what = 0; what <= 2; what++) said.append(' ').append(x.memberOf(member, what));
      said.append('\n');
    }
    int things = x.count(1);
    for (int thing = 0; thing < things; thing++) {
      tellThing(x, thing, things > 3 ? DAYS_SEEN_OF_MANY : DAYS_SEEN, said);
    }
    int asks = x.count(5);
    for (int ask = 0; ask < asks; ask++) {
      said.append("ask ").append(ask).append(':');
      for (int what = 0; what <= 8; what++) said.append(' ').append(Due.answerOf(x, ask, what));
      said.append('\n');
    }
    return said.toString();
  }

  /** What comes of the house: its tape as a law, its pending asks planned, all out and back again. */
  static String goesOn(ToolHouse x) {
    StringBuilder said = new StringBuilder();
    said.append("law ").append(x.law()).append(" place ").append(x.place());
    said.append(" plan ").append(x.plan()).append('\n');
    int asks = x.count(5);
    for (int day = 0; day < 3; day++) {
      for (int ask = 0; ask < asks; ask++) {
        said.append(" out ").append(x.out(ask)).append(" back ").append(x.back(ask));
      }
      said.append(" days ").append(x.days(1)).append('\n');
    }
    for (int ask = 0; ask < asks; ask++) {
      said.append(Due.answerOf(x, ask, 0)).append(' ').append(Due.answerOf(x, ask, 1)).append(' ');
    }
    for (int member = 0; member < 2; member++) {
      said.append(" work ").append(x.work(member, 1)).append(" fees ").append(x.memberOf(member, 1));
    }
    said.append(" kind ").append(x.kind(0, 0, 0)).append(" thing ").append(x.thing(0));
    said.append(" member ").append(x.member()).append(" ask ").append(x.ask(0, 0, 0, x.count(4), x.count(4), 0));
    return said.toString();
  }

  private static void tellThing(ToolHouse x, int thing, int days, StringBuilder said) {
    said.append("thing ").append(thing).append(':');
    for (int what = 0; what <= 4; what++) said.append(' ').append(x.thingOf(thing, what));
    int day = x.count(4);
    for (int ahead = 0; ahead < days; ahead++) {
      said.append(' ').append(x.isFree(thing, day + ahead, day + ahead));
      said.append(x.lawful(thing, day + ahead));
    }
    said.append('\n');
  }
}
