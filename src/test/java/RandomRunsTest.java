import java.util.NoSuchElementException;
import java.util.Random;

/**
 * Runs of at most 512 calls, drawn from fixed seeds, on the program and on NaiveHouse: every answer must be the
 * same. It also fails if an answer that a run can give was never given, so that the runs stay worth it.
 */
public final class RandomRunsTest {
  private static final int RUNS = 4000;
  private static final int CALLS = 512;
  // A law takes ten times feed, and end, law and place.
  private static final int MOST_CALLS_AT_ONCE = 13;
  private static final String[] TEXTS = {"every", " ", "\n", ";", "0", "1", "2", "7", "12", "030", "999",
      "1000", "x", "ever", "\u0000", "\u00ff", "E", "every 0 ", "every 1 9;", "every 2 0;", " 5;"};

  private final Random random;
  private final ToolHouse house = new ToolHouse();
  private final NaiveHouse naive = new NaiveHouse();
  private final StringBuilder said = new StringBuilder();
  private final int pace;
  private final int stock;
  private int calls = 0;
  private static final int[] states = new int[7];
  private static final int[] outs = new int[7];
  private static final int[] laws = new int[4];
  private static int outsBehindLastDay = 0;
  private static int moved = 0;
  private static int substitutes = 0;

  private RandomRunsTest(long seed) {
    random = new Random(seed);
    pace = 1 + random.nextInt(8);
    stock = 1 + random.nextInt(12);
  }

  public static void main(String[] args) {
    for (int seed = 0; seed < RUNS; seed++) {
      RandomRunsTest run = new RandomRunsTest(seed);
      if (!run.agrees()) {
        System.out.println("seed " + seed + "\n" + run.said);
        System.exit(1);
      }
    }
    boolean all = moved > 0 && substitutes > 0 && outsBehindLastDay > 0
        && laws[0] > 0 && laws[2] > 0 && laws[3] > 0;
    for (int state : states) {
      all &= state > 0;
    }
    for (int out : outs) {
      all &= out > 0;
    }
    if (!all) {
      System.out.println("the runs leave out answers that a run can give");
      System.exit(1);
    }
    System.out.println(RUNS + " runs of up to " + CALLS + " calls agree");
  }

  private boolean agrees() {
    boolean same = setUp();
    while (same && calls <= CALLS - MOST_CALLS_AT_ONCE) {
      same = call();
    }
    return same;
  }

  /** Some stock at first, so that most runs have things to lend. */
  private boolean setUp() {
    int kinds = 1 + random.nextInt(4);
    boolean same = true;
    for (int i = 0; i < kinds; i++) {
      same &= kind(random.nextInt(4), random.nextInt(8), random.nextInt(20));
    }
    for (int i = 0; i < stock; i++) {
      int of = random.nextInt(kinds);
      same &= is("thing " + of, house.thing(of), naive.thing(of));
    }
    return same & is("member", house.member(), naive.member());
  }

  private boolean call() {
    int draw = random.nextInt(100);
    if (draw < 30) return ask();
    if (draw < 38) return is("plan", house.plan(), naive.plan());
    if (draw < 43) return goByDays();
    if (draw < 58) return goOut();
    if (draw < 64) return comeBack();
    if (draw < 66) return callOff();
    if (draw < 69) return law();
    if (draw < 73) return lookAt();
    if (draw < 75) return work();
    if (draw < 77) return addStock();
    return view();
  }

  private boolean ask() {
    int day = naive.count(4);
    int first = day + near(random.nextInt(6) == 0 ? 62 : 12);
    int last = first + near(random.nextInt(4) == 0 ? 17 : 4);
    int member = near(naive.count(2));
    int kind = near(naive.count(0));
    int needs = random.nextInt(20) == 0 ? odd() : random.nextBoolean() ? 0 : random.nextInt(8);
    int rank = near(3);
    String call = "ask " + member + " " + kind + " " + needs + " " + first + " " + last + " " + rank;
    return is(call, house.ask(member, kind, needs, first, last, rank),
        naive.ask(member, kind, needs, first, last, rank));
  }

  private boolean goByDays() {
    int n = random.nextInt(25) == 0 ? odd() : 1 + random.nextInt(random.nextInt(12) == 0 ? 60 : pace);
    return is("days " + n, house.days(n), naive.days(n));
  }

  private boolean goOut() {
    int ask = oneInState(1);
    int got = house.out(ask);
    outs[got >= -6 && got <= 0 ? -got : 1]++;
    if (got == 0 && naive.of(ask, 6) < naive.count(4)) outsBehindLastDay++;
    return is("out " + ask, got, naive.out(ask));
  }

  private boolean comeBack() {
    int ask = oneInState(3);
    return is("back " + ask, house.back(ask), naive.back(ask));
  }

  private boolean callOff() {
    int ask = near(naive.count(5));
    return is("off " + ask, house.off(ask) ? 1 : 0, naive.off(ask) ? 1 : 0);
  }

  private boolean lookAt() {
    int thing = near(naive.count(1));
    return is("look " + thing, house.look(thing) ? 1 : 0, naive.look(thing) ? 1 : 0);
  }

  private boolean work() {
    int member = near(naive.count(2));
    int hours = random.nextInt(10) == 0 ? odd() : 1 + random.nextInt(100);
    return is("work " + member + " " + hours, house.work(member, hours), naive.work(member, hours));
  }

  private boolean addStock() {
    switch (random.nextInt(5)) {
      case 0: return kind(near(6), near(256), near(101));
      case 1: return is("member", house.member(), naive.member());
      default:
        int kind = near(naive.count(0));
        return is("thing " + kind, house.thing(kind), naive.thing(kind));
    }
  }

  private boolean kind(int care, int features, int fee) {
    return is("kind " + care + " " + features + " " + fee, house.kind(care, features, fee),
        naive.kind(care, features, fee));
  }

  private boolean law() {
    StringBuilder text = new StringBuilder();
    for (int i = random.nextInt(5); i > 0; i--) {
      text.append("every ").append(near(naive.count(0) + 1)).append(' ').append(random.nextInt(40)).append(';');
    }
    if (random.nextInt(3) == 0) {
      for (int i = random.nextInt(12); i > 0; i--) {
        text.insert(random.nextInt(text.length() + 1), TEXTS[random.nextInt(TEXTS.length)]);
      }
    }
    boolean same = true;
    for (int at = 0; at < text.length() && at < 200; at += 20) {
      int[] five = new int[5];
      for (int i = 0; i < 20; i++) {
        five[i / 4] = five[i / 4] << 8 | (at + i < text.length() ? text.charAt(at + i) : odd() & 255);
      }
      same &= is("feed", house.feed(five[0], five[1], five[2], five[3], five[4]),
          naive.feed(five[0], five[1], five[2], five[3], five[4]));
    }
    int n = random.nextInt(10) == 0 ? odd() : text.length();
    same &= is("end " + n, house.end(n), naive.end(n));
    int got = house.law();
    laws[got >= 0 ? 0 : -got]++;
    same &= is("law '" + text + "'", got, naive.law());
    return same & is("place", house.place(), naive.place());
  }

  private boolean view() {
    int thing = near(naive.count(1));
    int day = naive.count(4);
    int first = random.nextInt(20) == 0 ? odd() : day + near(20);
    int last = random.nextInt(20) == 0 ? odd() : first + near(10);
    int member = near(naive.count(2));
    int what = near(9);
    switch (random.nextInt(9)) {
      case 0: return is("lawful", house.lawful(thing, last), naive.lawful(thing, last));
      case 1:
        int kind = near(naive.count(0));
        return is("buy " + kind, house.buy(kind), naive.buy(kind));
      case 2: return is("thingOf " + thing + " " + what, house.thingOf(thing, what), naive.thingOf(thing, what));
      case 3: return is("isFree " + thing + " " + first + " " + last, house.isFree(thing, first, last),
          naive.isFree(thing, first, last));
      case 4: return is("memberOf " + member + " " + what, house.memberOf(member, what),
          naive.memberOf(member, what));
      case 5:
        int counted = near(30);
        return is("count " + counted, house.count(counted), naive.count(counted));
      default: return viewOf(near(naive.count(5)), what);
    }
  }

  private boolean viewOf(int ask, int what) {
    long got = Due.answerOf(house, ask, what);
    long want;
    try {
      want = naive.of(ask, what);
    } catch (NoSuchElementException e) {
      want = Due.NO_SUCH_ELEMENT;
    }
    if (what == 0 && got >= 0 && got <= 6) states[(int) got]++;
    if (what == 2 && got > 0) moved++;
    if (what == 8 && got == 1) substitutes++;
    return is("of " + ask + " " + what, got, want);
  }

  /** Mostly a number below the bound, at times one at its edge or far away. */
  private int near(int bound) {
    int draw = random.nextInt(60);
    if (draw == 0) return bound;
    if (draw == 1) return -1;
    if (draw == 2) return odd();
    return bound == 0 ? 0 : random.nextInt(bound);
  }

  private int odd() {
    int[] odds = {0, -1, 1, 61, 101, 256, Integer.MAX_VALUE, Integer.MIN_VALUE, 5001, random.nextInt()};
    return odds[random.nextInt(odds.length)];
  }

  private int oneInState(int state) {
    int asks = naive.count(5);
    int from = asks == 0 ? 0 : random.nextInt(asks);
    for (int i = 0; i < asks && random.nextInt(40) != 0; i++) {
      int ask = (from + i) % asks;
      if (naive.of(ask, 0) == state) return ask;
    }
    return near(asks);
  }

  private boolean is(String call, long got, long want) {
    calls++;
    said.append(call).append(" -> ").append(got).append('\n');
    if (got != want) {
      said.append("   but NaiveHouse answers ").append(want).append('\n');
    }
    return got == want;
  }
}
