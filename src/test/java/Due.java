import java.util.NoSuchElementException;

/** Counts the answers that are not as due, and ends the test with exit code 1 if there was one. */
final class Due {
  /** Stands for NoSuchElementException among the answers. */
  static final long NO_SUCH_ELEMENT = Long.MIN_VALUE;

  private int asked = 0;
  private int wrong = 0;

  void is(String call, long got, long want) {
    asked++;
    if (got != want) {
      wrong++;
      System.out.println(call + " answered " + said(got) + ", due is " + said(want));
    }
  }

  void is(String call, boolean got, boolean want) {
    is(call, got ? 1 : 0, want ? 1 : 0);
  }

  /** Two stories of houses: the first line in which they differ is told. */
  void same(String when, String got, String want) {
    asked++;
    if (got.equals(want)) {
      return;
    }
    wrong++;
    String[] lines = got.split("\n");
    String[] others = want.split("\n");
    int at = 0;
    while (at < lines.length - 1 && at < others.length - 1 && lines[at].equals(others[at])) {
      at++;
    }
    System.out.println(when + " it tells '" + lines[at] + "', due is '" + others[at] + "'");
  }

  /** The state, thing and so on of an ask. */
  void of(ToolHouse house, int ask, int what, long want) {
    is("of(" + ask + ", " + what + ")", answerOf(house, ask, what), want);
  }

  static long answerOf(ToolHouse house, int ask, int what) {
    try {
      return house.of(ask, what);
    } catch (NoSuchElementException e) {
      return NO_SUCH_ELEMENT;
    }
  }

  /** Feeds a text's bytes and nothing behind them. */
  static void feed(ToolHouse house, String text) {
    for (int at = 0; at < text.length(); at += 20) {
      int[] five = new int[5];
      for (int i = 0; i < 20; i++) {
        int one = at + i < text.length() ? text.charAt(at + i) & 255 : 'X';
        five[i / 4] = five[i / 4] << 8 | one;
      }
      house.feed(five[0], five[1], five[2], five[3], five[4]);
    }
    house.end(text.length());
  }

  /** Tells a text as a law on an empty tape. */
  static int tell(ToolHouse house, String text) {
    feed(house, text);
    return house.law();
  }

  void finish() {
    if (wrong != 0) {
      System.out.println(wrong + " of " + asked + " answers are not as due");
      System.exit(1);
    }
    System.out.println(asked + " answers are as due");
  }

  private static String said(long answer) {
    return answer == NO_SUCH_ELEMENT ? "throws.NoSuchElementException" : Long.toString(answer);
  }
}
