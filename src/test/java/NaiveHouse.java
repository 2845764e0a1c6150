import java.util.ArrayList;
import java.util.Comparator;
import java.util.List;
import java.util.NoSuchElementException;
import java.util.TreeMap;
import java.util.regex.Matcher;
import java.util.regex.Pattern;

/**
 * The document written a second time, as it reads and with no care for speed: plans are found by trying
 * every row, texts are cut by a pattern, and buying looks for the longest chain. RandomRunsTest holds the
 * program against it.
 */
final class NaiveHouse {
  private static final int NONE = -1;
  private static final Pattern TOKEN = Pattern.compile("[ \n]+|[a-z]+|[0-9]+|(?s:.)");

  private record Kind(int care, int features, int fee) {}

  private static final class Thing {
    int kind;
    int look = NONE;
    int back = NONE;
  }

  private static final class Ask {
    int number, member, kind, needs, first, last, rank;
    int state = 0, thing = NONE, moved = 0, backDay = NONE;
  }

  private final List<Kind> kinds = new ArrayList<>();
  private final List<Thing> things = new ArrayList<>();
  private final List<Ask> asks = new ArrayList<>();
  private final int[] hours = new int[10];
  private final int[] fees = new int[10];
  private final List<TreeMap<Integer, Integer>> laws = new ArrayList<>();
  private String tape = "";
  private int members = 0;
  private int day = 0;
  private int place = NONE;

  int kind(int care, int features, int fee) {
    boolean good = care >= 0 && care <= 5 && features >= 0 && features <= 255 && fee >= 0 && fee <= 100;
    if (!good || kinds.size() == 8) return NONE;
    kinds.add(new Kind(care, features, fee));
    return kinds.size() - 1;
  }

  int thing(int kind) {
    if (!in(kind, kinds) || things.size() == 12) return NONE;
    Thing made = new Thing();
    made.kind = kind;
    things.add(made);
    return things.size() - 1;
  }

  int member() {
    return members == 10 ? NONE : members++;
  }

  int feed(int a, int b, int c, int d, int e) {
    if (tape.length() + 20 > 200) return NONE;
    for (int number : new int[] {a, b, c, d, e}) {
      for (byte one : java.nio.ByteBuffer.allocate(4).putInt(number).array()) tape += (char) (one & 255);
    }
    return tape.length();
  }

  int end(int n) {
    if (n < 0 || n > tape.length()) return NONE;
    tape = tape.substring(0, n);
    return n;
  }

  int law() {
    if (laws.size() == 20) return NONE;
    String text = tape;
    tape = "";
    place = NONE;
    TreeMap<Integer, Integer> wants = new TreeMap<>();
    List<Integer> numbers = new ArrayList<>();
    int step = 0;
    Matcher token = TOKEN.matcher(text);
    while (token.find()) {
      String word = token.group();
      if (word.isBlank() && (word.contains(" ") || word.contains("\n"))) continue;
      String form = step % 4 == 0 ? "every" : step % 4 == 3 ? ";" : "[0-9]{1,3}";
      if (!word.matches(form)) return faulty(1, token.start());
      if (step % 4 == 1 && !in(Integer.parseInt(word), kinds)) return faulty(2, token.start());
      if (step % 4 == 1 || step % 4 == 2) numbers.add(Integer.parseInt(word));
      step++;
    }
    if (step % 4 != 0) return faulty(1, text.length());
    for (int i = 0; i < numbers.size(); i += 2) wants.put(numbers.get(i), numbers.get(i + 1));
    laws.add(wants);
    return laws.size() - 1;
  }

  private int faulty(int fault, int at) {
    place = at;
    return -fault - 1;
  }

  int place() {
    return place;
  }

  boolean look(int thing) {
    if (!in(thing, things) || outWith(thing) != null) return false;
    things.get(thing).look = day;
    return true;
  }

  int lawful(int thing, int last) {
    if (!in(thing, things) || last < day) return NONE;
    return isLawful(thing, last) ? 1 : 0;
  }

  private boolean isLawful(int thing, int last) {
    Integer days = laws.isEmpty() ? null : laws.get(laws.size() - 1).get(things.get(thing).kind);
    int look = things.get(thing).look;
    return days == null || (look != NONE && (long) last - look <= days);
  }

  int ask(int member, int kind, int needs, int first, int last, int rank) {
    if (member < 0 || member >= members || !in(kind, kinds) || needs < 0 || needs > 255) return NONE;
    if (rank < 0 || rank > 2 || first < day || last > day + 60 || last < first) return NONE;
    if (last - first + 1 > 15 || asks.size() == 120 || inState(0).size() == 5) return NONE;
    Ask made = new Ask();
    made.number = asks.size();
    made.member = member;
    made.kind = kind;
    made.needs = needs;
    made.first = first;
    made.last = last;
    made.rank = rank;
    asks.add(made);
    return made.number;
  }

  private List<Ask> inState(int state) {
    return asks.stream().filter(a -> a.state == state).toList();
  }

  private boolean kindFits(int kind, Ask ask) {
    int features = kinds.get(kind).features();
    return kind == ask.kind || (ask.needs != 0 && (ask.needs & ~features) == 0);
  }

  private static boolean near(long first1, long last1, long first2, long last2, int care) {
    boolean secondBehind = first2 > last1 + care;
    boolean firstBehind = first1 > last2 + care;
    return !(secondBehind || firstBehind);
  }

  private boolean free(int thing, int but, int first, int last) {
    int care = kinds.get(things.get(thing).kind).care();
    for (Ask other : asks) {
      if (other.number == but || other.thing != thing) continue;
      int otherLast = other.last;
      if (other.state == 3 && day > otherLast) otherLast = day;
      if (other.state == 4) otherLast = other.backDay;
      boolean counts = other.state == 1 || other.state == 3 || other.state == 4;
      if (counts && near(first, last, other.first, otherLast, care)) return false;
    }
    return true;
  }

  // The best row so far, and its kept ones by rank (2, 1, 0) with minus its substitutes behind them.
  private int[] bestRow;
  private int[] bestWorth;

  int plan() {
    List<Ask> pending = inState(0);
    bestRow = null;
    boolean[][] may = new boolean[pending.size()][things.size()];
    for (int i = 0; i < pending.size(); i++) {
      Ask ask = pending.get(i);
      for (int t = 0; t < things.size(); t++) {
        may[i][t] = kindFits(things.get(t).kind, ask) && free(t, ask.number, ask.first, ask.last);
      }
    }
    tryRows(pending, may, new int[pending.size()], 0);
    int booked = 0;
    for (int i = 0; i < pending.size(); i++) {
      Ask ask = pending.get(i);
      boolean kept = bestRow[i] < things.size();
      ask.thing = kept ? bestRow[i] : NONE;
      ask.state = kept ? 1 : 2;
      booked += kept ? 1 : 0;
    }
    return booked;
  }

  /** Rows come in their own order (none is the number behind all things), so only a better one replaces. */
  private void tryRows(List<Ask> pending, boolean[][] may, int[] row, int at) {
    if (at == row.length) {
      int[] worth = new int[4];
      for (int i = 0; i < at; i++) {
        if (row[i] == things.size()) continue;
        worth[2 - pending.get(i).rank]++;
        if (things.get(row[i]).kind != pending.get(i).kind) worth[3]--;
      }
      if (bestRow == null || java.util.Arrays.compare(worth, bestWorth) > 0) {
        bestRow = row.clone();
        bestWorth = worth;
      }
      return;
    }
    for (int t = 0; t <= things.size(); t++) {
      if (t < things.size() && (!may[at][t] || clashes(pending, row, at, t))) continue;
      row[at] = t;
      tryRows(pending, may, row, at + 1);
    }
  }

  private boolean clashes(List<Ask> pending, int[] row, int at, int thing) {
    int care = kinds.get(things.get(thing).kind).care();
    Ask ask = pending.get(at);
    for (int i = 0; i < at; i++) {
      Ask other = pending.get(i);
      if (row[i] == thing && near(ask.first, ask.last, other.first, other.last, care)) return true;
    }
    return false;
  }

  boolean off(int ask) {
    if (!in(ask, asks) || asks.get(ask).state > 1) return false;
    asks.get(ask).state = 6;
    return true;
  }

  private Ask outWith(int thing) {
    return asks.stream().filter(a -> a.state == 3 && a.thing == thing).findFirst().orElse(null);
  }

  private boolean late(int thing) {
    Ask with = outWith(thing);
    return with != null && with.last < day;
  }

  int out(int ask) {
    if (!in(ask, asks) || asks.get(ask).state != 1) return NONE;
    Ask it = asks.get(ask);
    Thing thing = things.get(it.thing);
    if (it.first > day) return -2;
    if (hours[it.member] > 40) return -3;
    if (outWith(it.thing) != null) return -4;
    if (!isLawful(it.thing, it.last)) return -5;
    if (thing.back != NONE && day <= thing.back + kinds.get(thing.kind).care()) return -6;
    it.state = 3;
    return 0;
  }

  int back(int ask) {
    if (!in(ask, asks) || asks.get(ask).state != 3) return NONE;
    Ask it = asks.get(ask);
    int owed = 0;
    for (int d = it.first; d <= it.last; d++) owed++;
    for (int d = it.last + 1; d <= day; d++) owed += 2;
    hours[it.member] += owed;
    fees[it.member] += owed * kinds.get(things.get(it.thing).kind).fee();
    things.get(it.thing).back = day;
    it.backDay = day;
    it.state = 4;
    return day > it.last ? day - it.last : 0;
  }

  int work(int member, int worked) {
    if (member < 0 || member >= members || worked < 1 || worked > 100) return NONE;
    hours[member] = worked > hours[member] ? 0 : hours[member] - worked;
    return hours[member];
  }

  int days(int n) {
    if (n < 1 || n > 60 || day + n > 5000) return NONE;
    for (int i = 0; i < n; i++) {
      day++;
      for (Ask ask : inState(1)) {
        if (ask.last < day) ask.state = 5;
      }
      List<Ask> moving = new ArrayList<>();
      for (Ask ask : inState(1)) {
        if (late(ask.thing) && !free(ask.thing, ask.number, ask.first, ask.last)) moving.add(ask);
      }
      moving.sort(Comparator.<Ask>comparingInt(a -> -a.rank).thenComparingInt(a -> a.first)
          .thenComparingInt(a -> a.number));
      for (Ask ask : moving) moveOrLose(ask);
    }
    return day;
  }

  private void moveOrLose(Ask ask) {
    for (int t = 0; t < things.size(); t++) {
      boolean other = t != ask.thing && !late(t) && kindFits(things.get(t).kind, ask);
      if (other && free(t, ask.number, ask.first, ask.last)) {
        ask.thing = t;
        ask.moved++;
        return;
      }
    }
    ask.state = 5;
  }

  int buy(int kind) {
    if (!in(kind, kinds)) return NONE;
    int care = kinds.get(kind).care();
    List<Ask> log = new ArrayList<>(inState(2).stream().filter(a -> kindFits(kind, a)).toList());
    log.sort(Comparator.comparingInt(a -> a.first));
    int[] longest = new int[log.size()];
    int most = 0;
    for (int i = 0; i < log.size(); i++) {
      longest[i] = 1;
      for (int j = 0; j < i; j++) {
        if (log.get(i).first > log.get(j).last + care) longest[i] = Math.max(longest[i], longest[j] + 1);
      }
      most = Math.max(most, longest[i]);
    }
    return most;
  }

  int of(int ask, int what) {
    if (!in(ask, asks) || what < 0 || what > 8) throw new NoSuchElementException();
    Ask a = asks.get(ask);
    int substitute = a.thing == NONE ? NONE : things.get(a.thing).kind == a.kind ? 0 : 1;
    return new int[] {a.state, a.thing, a.moved, a.member, a.kind, a.first, a.last, a.rank, substitute}[what];
  }

  int thingOf(int thing, int what) {
    if (!in(thing, things) || what < 0 || what > 4) return NONE;
    Thing t = things.get(thing);
    Ask with = outWith(thing);
    int booked = (int) inState(1).stream().filter(a -> a.thing == thing).count();
    return new int[] {t.kind, t.look, with == null ? NONE : with.number, late(thing) ? 1 : 0, booked}[what];
  }

  int isFree(int thing, int first, int last) {
    if (!in(thing, things) || first < day || last < first) return NONE;
    return free(thing, NONE, first, last) ? 1 : 0;
  }

  int memberOf(int member, int what) {
    if (member < 0 || member >= members || what < 0 || what > 2) return NONE;
    int out = (int) inState(3).stream().filter(a -> a.member == member).count();
    return new int[] {hours[member], fees[member], out}[what];
  }

  int count(int what) {
    if (what >= 10 && what <= 16) return inState(what - 10).size();
    if (what >= 20 && what <= 27) {
      return laws.isEmpty() ? NONE : laws.get(laws.size() - 1).getOrDefault(what - 20, NONE);
    }
    if (what < 0 || what > 6) return NONE;
    return new int[] {kinds.size(), things.size(), members, laws.size(), day, asks.size(), tape.length()}[what];
  }

  private static boolean in(int number, List<?> list) {
    return number >= 0 && number < list.size();
  }
}
