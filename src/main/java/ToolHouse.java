import java.util.ArrayList;
import java.util.Arrays;
import java.util.NoSuchElementException;

/** A house that lends tools by the day; the document's promises 1 to 23. */
public final class ToolHouse {
    public static final int NONE = -1;

    private static final int MOST_KINDS = 8;
    private static final int MOST_THINGS = 12;
    private static final int MOST_MEMBERS = 10;
    private static final int MOST_LAWS = 20;
    private static final int MOST_ASKS = 120;
    private static final int MOST_PENDING = 5;
    private static final int MOST_BYTES = 200;

    private static final int MOST_CARE = 5;
    private static final int MOST_BITS = 255;
    private static final int MOST_FEE = 100;
    private static final int MOST_RANK = 2;
    private static final int DAYS_AHEAD = 60;
    private static final int LONGEST_LOAN = 15;
    private static final int MOST_OWED = 40;
    private static final int MOST_WORKED = 100;
    private static final int MOST_DAYS_AT_ONCE = 60;
    private static final int LATEST_DAY = 5000;

    private static final int PENDING = 0;
    private static final int BOOKED = 1;
    private static final int REFUSED = 2;
    private static final int OUT = 3;
    private static final int BACK = 4;
    private static final int LOST = 5;
    private static final int CALLED_OFF = 6;

    private final ArrayList<Kind> kinds = new ArrayList<>();
    private final ArrayList<Thing> things = new ArrayList<>();
    private final ArrayList<Member> members = new ArrayList<>();
    private final ArrayList<Ask> asks = new ArrayList<>();
    /** All that were refused, by their last days: so buy() goes through them once. */
    private final ArrayList<Ask> log = new ArrayList<>();
    private final Tape tape = new Tape();
    private final LawReader reader = new LawReader();
    private final LawBook laws = new LawBook();
    private final Planner planner = new Planner();
    private int day = 0;

    public ToolHouse() {
    }

    public int kind(int care, int features, int fee) {
        if (kinds.size() >= MOST_KINDS || !isWithin(care, 0, MOST_CARE)
                || !isWithin(features, 0, MOST_BITS) || !isWithin(fee, 0, MOST_FEE)) {
            return NONE;
        }
        kinds.add(new Kind(kinds.size(), care, features, fee));
        return kinds.size() - 1;
    }

    public int thing(int kind) {
        Kind its = kindAt(kind);
        if (its == null || things.size() >= MOST_THINGS) {
            return NONE;
        }
        things.add(new Thing(things.size(), its));
        return things.size() - 1;
    }

    public int member() {
        if (members.size() >= MOST_MEMBERS) {
            return NONE;
        }
        members.add(new Member(members.size()));
        return members.size() - 1;
    }

    public int feed(int a, int b, int c, int d, int e) {
        if (!tape.hasRoom()) {
            return NONE;
        }
        tape.put(a);
        tape.put(b);
        tape.put(c);
        tape.put(d);
        tape.put(e);
        return tape.length;
    }

    public int end(int n) {
        if (!isWithin(n, 0, tape.length)) {
            return NONE;
        }
        tape.length = n;
        return n;
    }

    public int law() {
        if (laws.told >= MOST_LAWS) {
            return NONE;
        }
        reader.read(tape, kinds.size());
        tape.length = 0;
        laws.place = reader.place;
        if (reader.fault != 0) {
            return -1 - reader.fault;
        }
        laws.tell(reader.wanted);
        return laws.told - 1;
    }

    public int place() {
        return laws.place;
    }

    public boolean look(int thing) {
        Thing its = thingAt(thing);
        if (its == null || its.outWith != null) {
            return false;
        }
        its.lastLook = day;
        return true;
    }

    public int lawful(int thing, int last) {
        Thing its = thingAt(thing);
        if (its == null || last < day) {
            return NONE;
        }
        return laws.lets(its, last) ? 1 : 0;
    }

    public int ask(int member, int kind, int needs, int first, int last, int rank) {
        Member asking = memberAt(member);
        Kind asked = kindAt(kind);
        if (asking == null || asked == null || !isWithin(needs, 0, MOST_BITS)
                || !isWithin(rank, 0, MOST_RANK) || !canBeAsked(first, last)) {
            return NONE;
        }
        if (asks.size() >= MOST_ASKS || howManyAre(PENDING) >= MOST_PENDING) {
            return NONE;
        }
        asks.add(new Ask(asks.size(), asking, asked, needs, first, last, rank));
        return asks.size() - 1;
    }

    public int plan() {
        planner.begin();
        for (int i = 0; i < asks.size(); i++) {
            Ask each = asks.get(i);
            if (each.state == PENDING) {
                planner.add(each);
            }
        }
        for (int i = 0; i < things.size(); i++) {
            Thing each = things.get(i);
            planner.offer(each, rowThatMayHave(each));
        }
        return carryOutPlan();
    }

    public boolean off(int ask) {
        Ask its = askAt(ask);
        if (its == null || (its.state != PENDING && its.state != BOOKED)) {
            return false;
        }
        its.state = CALLED_OFF;
        return true;
    }

    public int out(int ask) {
        Ask its = askAt(ask);
        if (its == null || its.state != BOOKED || its.thing == null) {
            return NONE;
        }
        // One that was planned behind its last day goes OUT too: only a day's beginning loses what is over.
        int hindrance = hindranceOf(its, its.thing);
        if (hindrance != 0) {
            return hindrance;
        }
        its.state = OUT;
        its.thing.outWith = its;
        its.member.asksOut++;
        return 0;
    }

    public int back(int ask) {
        Ask its = askAt(ask);
        if (its == null || its.state != OUT || its.thing == null) {
            return NONE;
        }
        int behind = Math.max(0, day - its.last);
        its.member.owe(its.last - its.first + 1 + 2 * behind, its.thing.kind.fee);
        its.member.asksOut--;
        its.thing.outWith = null;
        its.thing.lastBack = day;
        its.state = BACK;
        its.backDay = day;
        return behind;
    }

    public int work(int member, int hours) {
        Member its = memberAt(member);
        if (its == null || !isWithin(hours, 1, MOST_WORKED)) {
            return NONE;
        }
        its.hours = Math.max(0, its.hours - hours);
        return its.hours;
    }

    public int days(int n) {
        if (!isWithin(n, 1, MOST_DAYS_AT_ONCE) || day + n > LATEST_DAY) {
            return NONE;
        }
        for (int i = 0; i < n; i++) {
            day++;
            loseWhatIsOver();
            moveFromLateThings();
        }
        return day;
    }

    public int buy(int kind) {
        Kind bought = kindAt(kind);
        if (bought == null) {
            return NONE;
        }
        int kept = 0;
        int freeFrom = 0;
        // The one that ends first leaves the most room, so taking it is never worse.
        for (int i = 0; i < log.size(); i++) {
            Ask each = log.get(i);
            if (each.first >= freeFrom && bought.fits(each)) {
                kept++;
                freeFrom = each.last + bought.care + 1;
            }
        }
        return kept;
    }

    public int of(int ask, int what) throws NoSuchElementException {
        Ask its = askAt(ask);
        if (its == null) {
            throw new NoSuchElementException("no such ask");
        }
        switch (what) {
            case 0: return its.state;
            case 1: return its.thing == null ? NONE : its.thing.number;
            case 2: return its.moves;
            case 3: return its.member.number;
            case 4: return its.kind.number;
            case 5: return its.first;
            case 6: return its.last;
            case 7: return its.rank;
            case 8: return its.thing == null ? NONE : its.thing.kind == its.kind ? 0 : 1;
            default: throw new NoSuchElementException("no such what");
        }
    }

    public int thingOf(int thing, int what) {
        Thing its = thingAt(thing);
        if (its == null) {
            return NONE;
        }
        switch (what) {
            case 0: return its.kind.number;
            case 1: return its.lastLook;
            case 2: return its.outWith == null ? NONE : its.outWith.number;
            case 3: return its.isLate(day) ? 1 : 0;
            case 4: return howManyAreBookedOn(its);
            default: return NONE;
        }
    }

    public int isFree(int thing, int first, int last) {
        Thing its = thingAt(thing);
        if (its == null || first < day || last < first) {
            return NONE;
        }
        return isFreeBut(null, its, first, last) ? 1 : 0;
    }

    public int memberOf(int member, int what) {
        Member its = memberAt(member);
        if (its == null) {
            return NONE;
        }
        switch (what) {
            case 0: return its.hours;
            case 1: return its.fees;
            case 2: return its.asksOut;
            default: return NONE;
        }
    }

    public int count(int what) {
        if (isWithin(what, 10, 10 + CALLED_OFF)) {
            return howManyAre(what - 10);
        }
        if (isWithin(what, 20, 20 + MOST_KINDS - 1)) {
            return laws.daysWanted(what - 20);
        }
        switch (what) {
            case 0: return kinds.size();
            case 1: return things.size();
            case 2: return members.size();
            case 3: return laws.told;
            case 4: return day;
            case 5: return asks.size();
            case 6: return tape.length;
            default: return NONE;
        }
    }

    private static boolean isWithin(int number, int least, int most) {
        return number >= least && number <= most;
    }

    /** Two on one thing are near, unless one begins behind the other's last day and the care. */
    private static boolean areNear(int first, int last, int otherFirst, int otherLast, int care) {
        return first <= (long) otherLast + care && otherFirst <= (long) last + care;
    }

    private Kind kindAt(int number) {
        return number >= 0 && number < kinds.size() ? kinds.get(number) : null;
    }

    private Thing thingAt(int number) {
        return number >= 0 && number < things.size() ? things.get(number) : null;
    }

    private Member memberAt(int number) {
        return number >= 0 && number < members.size() ? members.get(number) : null;
    }

    private Ask askAt(int number) {
        return number >= 0 && number < asks.size() ? asks.get(number) : null;
    }

    private boolean canBeAsked(int first, int last) {
        return first >= day && last <= day + DAYS_AHEAD && first <= last
                && last - first < LONGEST_LOAN;
    }

    private int howManyAre(int state) {
        int found = 0;
        for (int i = 0; i < asks.size(); i++) {
            if (asks.get(i).state == state) {
                found++;
            }
        }
        return found;
    }

    private int howManyAreBookedOn(Thing thing) {
        int found = 0;
        for (int i = 0; i < asks.size(); i++) {
            if (asks.get(i).isBookedOn(thing)) {
                found++;
            }
        }
        return found;
    }

    /** Whether a thing is free on these days, whatever the one ask that is left aside holds of it. */
    private boolean isFreeBut(Ask aside, Thing thing, int first, int last) {
        int care = thing.kind.care;
        for (int i = 0; i < asks.size(); i++) {
            Ask other = asks.get(i);
            if (other != aside && other.holds(thing)
                    && areNear(first, last, other.first, other.lastDay(day), care)) {
                return false;
            }
        }
        return true;
    }

    private boolean isFreeFor(Ask ask, Thing thing) {
        return isFreeBut(ask, thing, ask.first, ask.last);
    }

    /** The asks of the plan's row that a thing fits and is free for, as bits. */
    private int rowThatMayHave(Thing thing) {
        int bits = 0;
        for (int i = 0; i < MOST_PENDING; i++) {
            Ask each = planner.askAtRow(i);
            if (each != null && thing.kind.fits(each) && isFreeFor(each, thing)) {
                bits |= 1 << i;
            }
        }
        return bits;
    }

    private int carryOutPlan() {
        int booked = 0;
        for (int i = 0; i < MOST_PENDING; i++) {
            Ask each = planner.askAtRow(i);
            if (each != null) {
                each.thing = thingAt(planner.thingAtRow(i));
                if (each.thing == null) {
                    refuse(each);
                } else {
                    each.state = BOOKED;
                    booked++;
                }
            }
        }
        return booked;
    }

    private void refuse(Ask ask) {
        ask.state = REFUSED;
        int at = 0;
        while (at < log.size() && log.get(at).last <= ask.last) {
            at++;
        }
        log.add(at, ask);
    }

    /** Why an ask may not go out with its thing yet: 0, or the first of the document's numbers. */
    private int hindranceOf(Ask ask, Thing thing) {
        if (day < ask.first) {
            return -2;
        }
        if (ask.member.hours > MOST_OWED) {
            return -3;
        }
        if (thing.outWith != null) {
            return -4;
        }
        if (!laws.lets(thing, ask.last)) {
            return -5;
        }
        return thing.isCaredFor(day) ? 0 : -6;
    }

    private void loseWhatIsOver() {
        for (int i = 0; i < asks.size(); i++) {
            Ask each = asks.get(i);
            if (each.state == BOOKED && each.last < day) {
                each.state = LOST;
            }
        }
    }

    private void moveFromLateThings() {
        // Each turn moves one off the late things or loses it, so none comes twice.
        for (int turn = 0; turn < asks.size(); turn++) {
            Ask next = nextToMove();
            if (next == null) {
                return;
            }
            Thing other = firstOtherThingFor(next);
            if (other == null) {
                next.state = LOST;
            } else {
                next.thing = other;
                next.moves++;
            }
        }
    }

    private Ask nextToMove() {
        Ask next = null;
        for (int i = 0; i < asks.size(); i++) {
            Ask each = asks.get(i);
            if (mustMove(each) && (next == null || each.movesAheadOf(next))) {
                next = each;
            }
        }
        return next;
    }

    private boolean mustMove(Ask ask) {
        return ask.state == BOOKED && ask.thing != null && ask.thing.isLate(day)
                && !isFreeFor(ask, ask.thing);
    }

    private Thing firstOtherThingFor(Ask ask) {
        for (int i = 0; i < things.size(); i++) {
            Thing each = things.get(i);
            if (each != ask.thing && !each.isLate(day) && each.kind.fits(ask)
                    && isFreeFor(ask, each)) {
                return each;
            }
        }
        return null;
    }

    private static final class Kind {
        final int number;
        final int care;
        final int features;
        final int fee;

        Kind(int number, int care, int features, int fee) {
            this.number = number;
            this.care = care;
            this.features = features;
            this.fee = fee;
        }

        boolean fits(Ask ask) {
            return ask.kind == this || (ask.needs != 0 && (features & ask.needs) == ask.needs);
        }
    }

    private static final class Thing {
        final int number;
        final Kind kind;
        int lastLook = NONE;
        int lastBack = NONE;
        Ask outWith = null;

        Thing(int number, Kind kind) {
            this.number = number;
            this.kind = kind;
        }

        boolean isLate(int today) {
            return outWith != null && outWith.last < today;
        }

        boolean isCaredFor(int today) {
            return lastBack == NONE || today > lastBack + kind.care;
        }
    }

    private static final class Member {
        final int number;
        int hours = 0;
        int fees = 0;
        int asksOut = 0;

        Member(int number) {
            this.number = number;
        }

        void owe(int more, int fee) {
            hours += more;
            fees += more * fee;
        }
    }

    private static final class Ask {
        final int number;
        final Member member;
        final Kind kind;
        final int needs;
        final int first;
        final int last;
        final int rank;
        int state = PENDING;
        Thing thing = null;
        int moves = 0;
        int backDay = NONE;

        Ask(int number, Member member, Kind kind, int needs, int first, int last, int rank) {
            this.number = number;
            this.member = member;
            this.kind = kind;
            this.needs = needs;
            this.first = first;
            this.last = last;
            this.rank = rank;
        }

        boolean isBookedOn(Thing one) {
            return thing == one && state == BOOKED;
        }

        /** Whether its days count against others on a thing. */
        boolean holds(Thing one) {
            return thing == one && (state == BOOKED || state == OUT || state == BACK);
        }

        int lastDay(int today) {
            if (state == BACK) {
                return backDay;
            }
            return state == OUT ? Math.max(today, last) : last;
        }

        boolean movesAheadOf(Ask other) {
            if (rank != other.rank) {
                return rank > other.rank;
            }
            return first != other.first ? first < other.first : number < other.number;
        }
    }

    /** The bytes that are fed until a law is told. */
    private static final class Tape {
        private static final int BYTES_FED = 20;

        private final int[] bytes = new int[MOST_BYTES];
        int length = 0;

        boolean hasRoom() {
            return length + BYTES_FED <= MOST_BYTES;
        }

        void put(int number) {
            for (int shift = 24; shift >= 0 && length < MOST_BYTES; shift -= 8) {
                bytes[length] = (number >>> shift) & 255;
                length++;
            }
        }

        int byteAt(int at) {
            return at >= 0 && at < length && at < MOST_BYTES ? bytes[at] : NONE;
        }
    }

    /** The law in force, how many were told, and where the latest text had its fault. */
    private static final class LawBook {
        int told = 0;
        int place = NONE;
        private final int[] wanted = new int[MOST_KINDS];

        LawBook() {
            Arrays.fill(wanted, NONE);
        }

        void tell(int[] newly) {
            for (int i = 0; i < MOST_KINDS && i < newly.length; i++) {
                wanted[i] = newly[i];
            }
            told++;
        }

        int daysWanted(int kind) {
            return kind >= 0 && kind < MOST_KINDS ? wanted[kind] : NONE;
        }

        boolean lets(Thing thing, int last) {
            int days = daysWanted(thing.kind.number);
            if (days == NONE) {
                return true;
            }
            return thing.lastLook != NONE && last - thing.lastLook <= days;
        }
    }

    /** Reads a law's text, token by token, up to its first fault. */
    private static final class LawReader {
        private static final String EVERY = "every";
        private static final int MOST_DIGITS = 3;
        private static final int FAULT_OF_FORM = 1;
        private static final int FAULT_OF_KIND = 2;
        private static final int DUE_EVERY = 0;
        private static final int DUE_KIND = 1;
        private static final int DUE_DAYS = 2;
        private static final int DUE_SIGN = 3;

        final int[] wanted = new int[MOST_KINDS];
        int fault = 0;
        int place = NONE;
        private int due = DUE_EVERY;
        private int kindTold = 0;

        void read(Tape tape, int kinds) {
            Arrays.fill(wanted, NONE);
            fault = 0;
            place = NONE;
            due = DUE_EVERY;
            int at = 0;
            while (at < tape.length && fault == 0) {
                int end = at + 1;
                if (!isBlank(tape.byteAt(at))) {
                    end = endOfToken(tape, at);
                    take(tape, at, end, kinds);
                }
                // A step is never shorter than a byte, so the loop ends whatever a token's end is.
                at = Math.max(at + 1, end);
            }
            if (fault == 0 && due != DUE_EVERY) {
                blame(FAULT_OF_FORM, tape.length);
            }
        }

        private void take(Tape tape, int at, int end, int kinds) {
            int number = numberOf(tape, at, end);
            if (due == DUE_EVERY && isEvery(tape, at, end)) {
                due = DUE_KIND;
            } else if (due == DUE_KIND && number != NONE) {
                takeKind(number, at, kinds);
            } else if (due == DUE_DAYS && number != NONE) {
                takeDays(number);
            } else if (due == DUE_SIGN && tape.byteAt(at) == ';') {
                due = DUE_EVERY;
            } else {
                blame(FAULT_OF_FORM, at);
            }
        }

        private void takeKind(int number, int at, int kinds) {
            if (number >= kinds) {
                blame(FAULT_OF_KIND, at);
                return;
            }
            kindTold = number;
            due = DUE_DAYS;
        }

        private void takeDays(int number) {
            if (kindTold >= 0 && kindTold < MOST_KINDS) {
                wanted[kindTold] = number;
            }
            due = DUE_SIGN;
        }

        private void blame(int kindOfFault, int at) {
            fault = kindOfFault;
            place = at;
        }

        /** Behind the last byte that stands together with the one here; one that is no token's stands alone. */
        private static int endOfToken(Tape tape, int at) {
            boolean isWord = isLetter(tape.byteAt(at));
            boolean isNumber = isDigit(tape.byteAt(at));
            int end = at + 1;
            while (end < tape.length && ((isWord && isLetter(tape.byteAt(end)))
                    || (isNumber && isDigit(tape.byteAt(end))))) {
                end++;
            }
            return end;
        }

        private static boolean isEvery(Tape tape, int at, int end) {
            if (end - at != EVERY.length()) {
                return false;
            }
            for (int i = 0; i < EVERY.length(); i++) {
                if (tape.byteAt(at + i) != EVERY.charAt(i)) {
                    return false;
                }
            }
            return true;
        }

        /** The number of a token; NONE if it is no number, or a longer one. */
        private static int numberOf(Tape tape, int at, int end) {
            if (!isDigit(tape.byteAt(at)) || end - at > MOST_DIGITS) {
                return NONE;
            }
            int number = 0;
            for (int i = at; i < end; i++) {
                number = number * 10 + tape.byteAt(i) - '0';
            }
            return number;
        }

        private static boolean isBlank(int one) {
            return one == 32 || one == 10;
        }

        private static boolean isLetter(int one) {
            return one >= 'a' && one <= 'z';
        }

        private static boolean isDigit(int one) {
            return one >= '0' && one <= '9';
        }
    }

    /**
     * Finds the best plan of at most five asks. Each ask that gets a thing has a worth, so that of two
     * plans the better one has the greater sum: the ranks weigh most, then substitutes, and least the row
     * itself, written as a number of base 13 (a digit for each ask: 12 for thing 0, down to 0 for none).
     */
    private static final class Planner {
        private static final int BASE = MOST_THINGS + 1;
        private static final int SUBSTITUTE = BASE * BASE * BASE * BASE * BASE;
        // Each weight is above what five asks can gain or lose by all the lesser ones.
        private static final int RANK_0 = (MOST_PENDING + 1) * SUBSTITUTE;
        private static final int RANK_1 = (MOST_PENDING + 1) * RANK_0;
        private static final int RANK_2 = (MOST_PENDING + 1) * RANK_1;
        private static final int SETS = 1 << MOST_PENDING;

        private final Ask[] row = new Ask[MOST_PENDING];
        private int size = 0;
        /** For each set of asks, as bits, the most that the things offered so far make of it. */
        private final int[] most = new int[SETS];
        /** What a set gains if one thing gets all of it; NONE if it can't. */
        private final int[] gains = new int[SETS];

        void begin() {
            size = 0;
            Arrays.fill(most, 0);
        }

        void add(Ask ask) {
            if (size < MOST_PENDING) {
                row[size] = ask;
                size++;
            }
        }

        Ask askAtRow(int at) {
            return at >= 0 && at < size && at < MOST_PENDING ? row[at] : null;
        }

        void offer(Thing thing, int mayHave) {
            if (mayHave == 0) {
                return;
            }
            weigh(thing, mayHave);
            // From the greatest set down: what is left of a set is a lesser one, and still without this thing.
            for (int set = wholeRow(); set > 0; set--) {
                int parts = set & mayHave;
                for (int part = parts; part > 0; part = (part - 1) & parts) {
                    if (gains[part] > 0) {
                        most[set] = Math.max(most[set], most[set ^ part] + gains[part]);
                    }
                }
            }
        }

        /** The number of the thing that the best plan gives to the ask at a place of the row, or NONE. */
        int thingAtRow(int at) {
            int sum = most[wholeRow()];
            for (int i = at; i < MOST_PENDING - 1; i++) {
                sum /= BASE;
            }
            int digit = sum % BASE;
            return digit == 0 ? NONE : MOST_THINGS - digit;
        }

        private int wholeRow() {
            return size >= 0 && size <= MOST_PENDING ? (1 << size) - 1 : 0;
        }

        private void weigh(Thing thing, int mayHave) {
            gains[0] = 0;
            for (int i = 0; i < size && i < MOST_PENDING; i++) {
                int one = 1 << i;
                Ask ask = (mayHave & one) == 0 ? null : askAtRow(i);
                int worth = ask == null ? 0 : worthOf(ask, thing, i);
                int near = ask == null ? 0 : nearTo(ask, thing.kind.care, i);
                for (int others = 0; others < one; others++) {
                    boolean holdsAll = ask != null && gains[others] != NONE && (near & others) == 0;
                    gains[one | others] = holdsAll ? gains[others] + worth : NONE;
                }
            }
        }

        private static int worthOf(Ask ask, Thing thing, int at) {
            int digit = MOST_THINGS - thing.number;
            for (int i = at; i < MOST_PENDING - 1; i++) {
                digit *= BASE;
            }
            int kept = ask.rank == 2 ? RANK_2 : ask.rank == 1 ? RANK_1 : RANK_0;
            return thing.kind == ask.kind ? kept + digit : kept - SUBSTITUTE + digit;
        }

        /** Those ahead of a place of the row that are near to the ask there, as bits. */
        private int nearTo(Ask ask, int care, int at) {
            int bits = 0;
            for (int i = 0; i < at; i++) {
                Ask other = askAtRow(i);
                if (other != null && areNear(ask.first, ask.last, other.first, other.last, care)) {
                    bits |= 1 << i;
                }
            }
            return bits;
        }
    }
}
