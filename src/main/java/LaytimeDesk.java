import java.util.Arrays;

/** A desk that counts the minutes a ship may lie. What each method must do is told in ../shared/DOC.md. */
public final class LaytimeDesk {
    public static final int NONE = -1;

    private static final int MOST_CONTRACTS = 40;
    private static final int PLACES = 60;
    private static final int PORTS = 8;
    private static final int MOST_DAYS = 90;
    private static final int DAY_LONG = 1440;
    private static final int LOG_LONG = MOST_DAYS * DAY_LONG;
    private static final int MOST_EVENTS = 5000;
    private static final int MOST_ROWS = 500;
    // Far above the stretches and events that all logs together can have.
    private static final int MOST_TURNS = 2000000;

    private static final int ALLOW = 0;
    private static final int EXCEPT = 1;
    private static final int UNLESS = 2;
    private static final int ALWAYS = 3;
    private static final int HALF = 4;
    private static final int HEADING = 5;
    private static final int EMPTY = 6;

    private static final int ALL_MINUTES = 0;
    private static final int HOURS = 1;
    private static final int FREE_DAYS = 2;
    private static final int STATED = 3;
    private static final int LOG_MINUTES = 4;

    private static final int ARRIVED = 0;
    private static final int NOTICE = 1;
    private static final int BEGAN = 3;
    private static final int SHIFTED = 6;
    private static final int ENDED = 7;
    private static final int WORKING = 1;

    private static final int NO_SUCH = 1;
    private static final int NOT_THERE = 2;
    private static final int ANOTHER = 3;
    private static final int BEYOND = 4;
    private static final int FULL = 5;

    private static final int NO_TERM = -2;
    private static final int UNKNOWN = -3;
    private static final int UNKNOWN_HALVES = 3;
    private static final int OTHER_HALVES = -2;
    private static final int NO_CHECK = -4;

    private static final int MISSING = -1;
    // Behind every minute, and behind every place where one stands.
    private static final int NEVER = 2000000000;

    private final Book now;
    private final Book kept;
    private final Group group;
    private final int[] refusals;
    private boolean imaged;
    private int reason;

    public LaytimeDesk() {
        now = new Book();
        kept = new Book();
        group = new Group(now);
        refusals = new int[FULL + 1];
    }

    // ---- contracts

    public int contract() {
        if (refused(now.terms.contracts >= MOST_CONTRACTS ? FULL : 0)) {
            return NONE;
        }
        now.terms.contracts++;
        return now.terms.contracts - 1;
    }

    public boolean term(int c, int place, int kind, int sort, int a, int b) {
        if (refused(least(placeReason(c, place), number(isTerm(kind, sort, a, b))))) {
            return false;
        }
        now.terms.write(rowOf(c, place), kind, sort, a, b);
        return true;
    }

    public int yields(int c, int place, int bits) {
        if (refused(least(termReason(c, place), number(within(bits, 0, 31))))) {
            return NONE;
        }
        int was = at(now.terms.yielding, rowOf(c, place));
        put(now.terms.yielding, rowOf(c, place), bits);
        return was;
    }

    public boolean amount(int c, int place, int v) {
        if (refused(least(termReason(c, place), number(within(v, -1000000, 1000000))))) {
            return false;
        }
        put(now.terms.amounts, rowOf(c, place), v);
        return true;
    }

    public boolean heading(int c, int place, int v) {
        if (refused(placeReason(c, place))) {
            return false;
        }
        now.terms.write(rowOf(c, place), HEADING, 0, v, 0);
        return true;
    }

    public boolean strike(int c, int place) {
        if (refused(thingReason(c, place))) {
            return false;
        }
        now.terms.write(rowOf(c, place), EMPTY, 0, 0, 0);
        return true;
    }

    public int kind(int c, int place) {
        if (refused(placeReason(c, place))) {
            return NONE;
        }
        return at(now.terms.kinds, rowOf(c, place));
    }

    public int headed(int c, int place) {
        int why = thingReason(c, place);
        if (why == 0 && at(now.terms.kinds, rowOf(c, place)) != HEADING) {
            why = ANOTHER;
        }
        if (refused(why)) {
            return NONE;
        }
        return at(now.terms.firsts, rowOf(c, place));
    }

    public int span(int c, int place, int what) {
        if (refused(least(termReason(c, place), number(within(what, 0, 4))))) {
            return NONE;
        }
        int row = rowOf(c, place);
        switch (what) {
            case 0: return at(now.terms.sorts, row);
            case 1: return at(now.terms.firsts, row);
            case 2: return at(now.terms.seconds, row);
            case 3: return at(now.terms.yielding, row);
            default: return at(now.terms.amounts, row);
        }
    }

    // ---- ports and their logs

    public boolean port(int p, int c, int days) {
        int why = least(number(within(p, 0, PORTS - 1)), contractReason(c));
        if (refused(least(why, number(within(days, 1, MOST_DAYS))))) {
            return false;
        }
        leave(p);
        now.portAt(p).open(c, days);
        return true;
    }

    public boolean close(int p) {
        if (refused(portReason(p))) {
            return false;
        }
        leave(p);
        now.portAt(p).shut();
        return true;
    }

    public boolean event(int p, int m, int kind) {
        int why = least(minuteReason(p, m), number(within(kind, ARRIVED, ENDED)));
        if (why == 0 && !now.portAt(p).knows(m)) {
            why = NOT_THERE;
        }
        if (refused(least(why, now.events.many >= MOST_EVENTS ? FULL : 0))) {
            return false;
        }
        now.events.add(p, m, kind);
        return true;
    }

    public boolean day(int p, int d, boolean is) {
        if (refused(dayReason(p, d))) {
            return false;
        }
        put(now.portAt(p).known, d, is ? DAY_LONG : MISSING);
        now.events.remove(p, d * DAY_LONG, DAY_LONG);
        return true;
    }

    public int tear(int p, int d, int t) {
        int why = least(thereReason(p, d), number(within(t, 0, DAY_LONG - 1)));
        if (refused(why)) {
            return NONE;
        }
        int from = Math.min(t, at(now.portAt(p).known, d));
        put(now.portAt(p).known, d, from);
        return now.events.remove(p, d * DAY_LONG + from, DAY_LONG - from);
    }

    public int copy(int p, int d, int q, int e, int n) {
        int why = least(dayReason(p, d), dayReason(q, e));
        why = least(why, number(within(n, 0, MOST_DAYS)));
        if (why != 0) {
            refused(why);
            return NONE;
        }
        int room = Math.min(now.portAt(p).days - d, now.portAt(q).days - e);
        int came = daysThatFit(p, d, q, e, Math.min(n, room));
        refused(came == n ? 0 : came == room ? BEYOND : FULL);
        now.events.copyRange(q, e * DAY_LONG, p, d * DAY_LONG, came * DAY_LONG);
        slide(now.portAt(q).known, e, now.portAt(p).known, d, came);
        return came;
    }

    public boolean free(int p, int d, boolean is) {
        if (refused(thereReason(p, d))) {
            return false;
        }
        boolean was = at(now.portAt(p).free, d) == 1;
        put(now.portAt(p).free, d, is ? 1 : 0);
        return was;
    }

    public boolean tons(int p, long thousandths) {
        boolean good = thousandths >= 0 && thousandths <= 100000000L;
        if (refused(least(portReason(p), number(good)))) {
            return false;
        }
        now.portAt(p).thousandths = thousandths;
        return true;
    }

    public boolean office(int p, int from, int to, int grace) {
        boolean good = within(from, 0, DAY_LONG) && within(to, 0, DAY_LONG) && within(grace, 0, 100000);
        if (refused(least(portReason(p), number(good)))) {
            return false;
        }
        Port port = now.portAt(p);
        port.officeFrom = from;
        port.officeTo = to;
        port.graceLong = grace;
        return true;
    }

    public boolean offset(int p, int v) {
        if (refused(least(portReason(p), number(within(v, 0, 1000000))))) {
            return false;
        }
        now.portAt(p).shift = v;
        return true;
    }

    public boolean rate(int p, long rate, long back) {
        boolean good = rate >= 0 && rate <= 1000000000L && back >= 0 && back <= 1000000000L;
        if (refused(least(portReason(p), number(good)))) {
            return false;
        }
        now.portAt(p).owedRate = rate;
        now.portAt(p).savedRate = back;
        return true;
    }

    public boolean together(int bits) {
        int why = number(within(bits, 0, (1 << PORTS) - 1));
        for (int p = 0; p < PORTS && why == 0; p++) {
            if ((bits >> p & 1) == 1) {
                why = portReason(p);
            }
        }
        if (refused(why)) {
            return false;
        }
        now.grouped = bits;
        return true;
    }

    // ---- what is told

    public int told(int p, int what) {
        if (refused(least(portReason(p), number(within(what, 0, 7))))) {
            return NONE;
        }
        Stay stay = group.stayAt(p);
        stay.read(now, p);
        switch (what) {
            case 0: return stay.good;
            case 1: return stay.begin;
            case 2: return stay.counted ? stay.end : NONE;
            case 3: return (int) stay.allowed;
            case 4: return now.portAt(p).days;
            case 5: return now.events.manyIn(p, 0, LOG_LONG);
            case 6: return now.portAt(p).unknownMinutes();
            default: return now.portAt(p).contractNumber;
        }
    }

    public long weight(int p, int what) {
        if (refused(least(portReason(p), number(within(what, 0, 1))))) {
            return NONE;
        }
        long thousandths = now.portAt(p).thousandths;
        return what == 0 ? thousandths / 1000 : thousandths % 1000;
    }

    public int state(int p, int m) {
        int why = minuteReason(p, m);
        if (why == 0 && !now.portAt(p).knows(m)) {
            why = NOT_THERE;
        }
        if (refused(why)) {
            return NONE;
        }
        return now.events.stateAt(p, m);
    }

    public int minute(int p, int m, boolean high) {
        if (refused(minuteReason(p, m))) {
            return NONE;
        }
        group.read(now.groupOf(p), high);
        Walk walk = group.walkIn(p, m, m + 1);
        if (!walk.step()) {
            return NONE;
        }
        return walk.why == UNKNOWN ? UNKNOWN_HALVES : walk.halves;
    }

    public int why(int p, int m, boolean high) {
        if (refused(minuteReason(p, m))) {
            return NONE;
        }
        group.read(now.groupOf(p), high);
        Walk walk = group.walkIn(p, m, m + 1);
        return walk.step() ? walk.why : NONE;
    }

    public int counts(int p, int from, int to, boolean high) {
        if (refused(least(portReason(p), number(from >= 0 && to >= 0)))) {
            return NONE;
        }
        group.read(now.groupOf(p), high);
        return group.halvesOf(p, from, to);
    }

    public int by(int p, int place, boolean high) {
        if (refused(least(portReason(p), number(isWhy(place))))) {
            return NONE;
        }
        group.read(now.groupOf(p), high);
        return group.minutesBy(p, place);
    }

    public long sum(int p, int what, boolean high) {
        if (refused(least(portReason(p), number(within(what, 0, 8))))) {
            return NONE;
        }
        group.read(now.groupOf(p), high);
        group.settle();
        switch (what) {
            case 0: return group.halves;
            case 1: return group.limit;
            case 2: return group.reached ? group.once : NONE;
            case 3: return group.owed();
            case 4: return group.saved();
            case 5: return group.money();
            case 6: return group.minutes();
            case 7: return group.leastPort();
            default: return group.counting;
        }
    }

    public long as(int p, int place, int to, boolean high) {
        boolean good = within(place, 0, PLACES - 1) && within(to, NONE, PLACES - 1);
        if (refused(least(portReason(p), number(good)))) {
            return NONE;
        }
        Terms terms = now.terms;
        int c = now.portAt(p).contractNumber;
        int row = rowOf(c, place);
        terms.copyRow(row, Terms.ASIDE);
        terms.copyRow(to == NONE ? Terms.BARE : rowOf(c, to), row);
        group.read(now.groupOf(p), high);
        group.settle();
        long answer = group.owed() - group.saved();
        terms.copyRow(Terms.ASIDE, row);
        return answer;
    }

    // ---- claims, images, status

    public boolean claim(int p) {
        if (refused(portReason(p))) {
            return false;
        }
        now.claimed.begin(p);
        return true;
    }

    public int tell(int n, int why) {
        int bad = number(within(n, 1, LOG_LONG) && isWhy(why));
        bad = least(bad, now.claimed.portNumber == NONE ? NOT_THERE : 0);
        if (refused(least(bad, now.claimed.rows >= MOST_ROWS ? FULL : 0))) {
            return NONE;
        }
        now.claimed.add(n, why);
        return now.claimed.rows;
    }

    public int check(int halves, boolean high) {
        int p = now.claimed.portNumber;
        if (refused(p == NONE ? NOT_THERE : portReason(p))) {
            return NO_CHECK;
        }
        group.read(now.groupOf(p), high);
        int wrong = group.firstWrong(now.claimed);
        if (wrong != NONE) {
            return wrong;
        }
        return group.halvesOf(p, 0, LOG_LONG) == halves ? NONE : OTHER_HALVES;
    }

    public boolean image() {
        refused(0);
        kept.take(now);
        imaged = true;
        return true;
    }

    public boolean back() {
        if (refused(imaged ? 0 : NOT_THERE)) {
            return false;
        }
        now.take(kept);
        return true;
    }

    public int status(int what) {
        if (within(what, 1, FULL)) {
            return at(refusals, what);
        }
        switch (what) {
            case 0: return reason;
            case 6: return now.terms.contracts;
            case 7: return now.events.many;
            case 8: return now.claimed.rows;
            default: return NONE;
        }
    }

    // ---- refusals

    /** Every call but status() comes through here once, with its REASON or 0. */
    private boolean refused(int why) {
        reason = why;
        if (why != 0) {
            put(refusals, why, at(refusals, why) + 1);
        }
        return why != 0;
    }

    private static int least(int why, int other) {
        if (why == 0 || other == 0) {
            return why + other;
        }
        return Math.min(why, other);
    }

    private static int number(boolean good) {
        return good ? 0 : NO_SUCH;
    }

    private int contractReason(int c) {
        if (!within(c, 0, MOST_CONTRACTS - 1)) {
            return NO_SUCH;
        }
        return c < now.terms.contracts ? 0 : NOT_THERE;
    }

    private int placeReason(int c, int place) {
        return least(contractReason(c), number(within(place, 0, PLACES - 1)));
    }

    /** Refuses a PLACE that holds nothing. */
    private int thingReason(int c, int place) {
        int why = placeReason(c, place);
        if (why == 0 && at(now.terms.kinds, rowOf(c, place)) == EMPTY) {
            return NOT_THERE;
        }
        return why;
    }

    /** Refuses a PLACE that holds no TERM. */
    private int termReason(int c, int place) {
        int why = thingReason(c, place);
        if (why == 0 && at(now.terms.kinds, rowOf(c, place)) == HEADING) {
            return ANOTHER;
        }
        return why;
    }

    private int portReason(int p) {
        if (!within(p, 0, PORTS - 1)) {
            return NO_SUCH;
        }
        return now.portAt(p).days > 0 ? 0 : NOT_THERE;
    }

    private int dayReason(int p, int d) {
        int why = least(portReason(p), number(within(d, 0, MOST_DAYS - 1)));
        if (why == 0 && d >= now.portAt(p).days) {
            return NO_SUCH;
        }
        return why;
    }

    /** Refuses a DAY that is missing, too. */
    private int thereReason(int p, int d) {
        int why = dayReason(p, d);
        if (why == 0 && at(now.portAt(p).known, d) == MISSING) {
            return NOT_THERE;
        }
        return why;
    }

    private int minuteReason(int p, int m) {
        int why = least(portReason(p), number(within(m, 0, LOG_LONG - 1)));
        if (why == 0 && m >= now.portAt(p).logLong()) {
            return NO_SUCH;
        }
        return why;
    }

    private static boolean isTerm(int kind, int sort, int a, int b) {
        if (!within(kind, ALLOW, HALF)) {
            return false;
        }
        switch (sort) {
            case ALL_MINUTES: return true;
            case HOURS: return within(a, 0, DAY_LONG) && within(b, 0, DAY_LONG);
            case FREE_DAYS: return true;
            case STATED: return within(a, 0, 4);
            case LOG_MINUTES: return within(a, 0, LOG_LONG) && within(b, 0, LOG_LONG);
            default: return false;
        }
    }

    private static boolean isWhy(int why) {
        return why == NO_TERM || why == UNKNOWN || within(why, 0, PLACES - 1);
    }

    // ---- helpers of the desk

    /** A PORT that is closed, or opened anew, loses its EVENTS and its GROUP. */
    private void leave(int p) {
        now.events.remove(p, 0, LOG_LONG);
        now.grouped &= ~(1 << p);
    }

    /** Each DAY is counted as it was at first, for no DAY is written twice in one copy(). */
    private int daysThatFit(int p, int d, int q, int e, int most) {
        int many = now.events.many;
        for (int i = 0; i < most; i++) {
            many -= now.events.manyIn(p, (d + i) * DAY_LONG, DAY_LONG);
            many += now.events.manyIn(q, (e + i) * DAY_LONG, DAY_LONG);
            if (many > MOST_EVENTS) {
                return i;
            }
        }
        return most;
    }

    // ---- helpers for arrays: an index is looked at before it is used

    private static int rowOf(int c, int place) {
        return c * PLACES + place;
    }

    private static boolean within(int v, int least, int most) {
        return v >= least && v <= most;
    }

    private static int at(int[] row, int i) {
        return i >= 0 && i < row.length ? row[i] : 0;
    }

    private static void put(int[] row, int i, int v) {
        if (i >= 0 && i < row.length) {
            row[i] = v;
        }
    }

    /** Copies as if by way of a third array, where both are the same one. */
    private static void slide(int[] source, int from, int[] target, int to, int n) {
        if (from < 0 || to < 0 || n <= 0 || from > source.length - n || to > target.length - n) {
            return;
        }
        System.arraycopy(source, from, target, to, n);
    }

    private static void copyAll(int[] target, int[] source) {
        slide(source, 0, target, 0, Math.min(source.length, target.length));
    }

    /** All that an image keeps. */
    private static final class Book {
        final Terms terms = new Terms();
        final Events events = new Events();
        final Claimed claimed = new Claimed();
        final Port[] ports = new Port[PORTS];
        final Port nowhere = new Port();
        int grouped;

        Book() {
            for (int p = 0; p < ports.length; p++) {
                ports[p] = new Port();
            }
        }

        Port portAt(int p) {
            return p >= 0 && p < ports.length ? ports[p] : nowhere;
        }

        /** The PORTS of a PORT's GROUP, one bit each. */
        int groupOf(int p) {
            return (grouped >> p & 1) == 1 ? grouped : 1 << p;
        }

        void take(Book other) {
            terms.take(other.terms);
            events.take(other.events);
            claimed.take(other.claimed);
            for (int p = 0; p < PORTS; p++) {
                portAt(p).take(other.portAt(p));
            }
            grouped = other.grouped;
        }
    }

    /** The PLACES of all CONTRACTS, a row each. */
    private static final class Terms {
        static final int BARE = MOST_CONTRACTS * PLACES;
        static final int ASIDE = BARE + 1;
        static final int ROWS = ASIDE + 1;

        final int[] kinds = new int[ROWS];
        final int[] sorts = new int[ROWS];
        // A HEADING's int stands in firsts, too.
        final int[] firsts = new int[ROWS];
        final int[] seconds = new int[ROWS];
        final int[] yielding = new int[ROWS];
        final int[] amounts = new int[ROWS];
        int contracts;

        Terms() {
            Arrays.fill(kinds, EMPTY);
        }

        void write(int row, int kind, int sort, int a, int b) {
            put(kinds, row, kind);
            put(sorts, row, sort);
            put(firsts, row, a);
            put(seconds, row, b);
            put(yielding, row, 0);
            put(amounts, row, 0);
        }

        void copyRow(int from, int to) {
            put(kinds, to, at(kinds, from));
            put(sorts, to, at(sorts, from));
            put(firsts, to, at(firsts, from));
            put(seconds, to, at(seconds, from));
            put(yielding, to, at(yielding, from));
            put(amounts, to, at(amounts, from));
        }

        long allowedBy(int c, long thousandths) {
            long sum = 0;
            for (int row = c * PLACES; row < (c + 1) * PLACES; row++) {
                long amount = at(amounts, row);
                if (at(kinds, row) != ALLOW) {
                    continue;
                }
                sum += amount < 0 ? thousandths * 60 / (1000 * -amount) : amount;
            }
            return sum;
        }

        void take(Terms other) {
            copyAll(kinds, other.kinds);
            copyAll(sorts, other.sorts);
            copyAll(firsts, other.firsts);
            copyAll(seconds, other.seconds);
            copyAll(yielding, other.yielding);
            copyAll(amounts, other.amounts);
            contracts = other.contracts;
        }
    }

    /** A PORT and the DAYS of its LOG; its EVENTS stand in Events. */
    private static final class Port {
        // Of each DAY how many of its minutes are known, or MISSING.
        final int[] known = new int[MOST_DAYS];
        final int[] free = new int[MOST_DAYS];
        int days;
        int contractNumber;
        int officeFrom;
        int officeTo;
        int graceLong;
        int shift;
        long thousandths;
        long owedRate;
        long savedRate;

        void open(int c, int n) {
            Arrays.fill(known, DAY_LONG);
            Arrays.fill(free, 0);
            days = n;
            contractNumber = c;
            officeFrom = 0;
            officeTo = DAY_LONG;
            graceLong = 0;
            shift = 0;
            thousandths = 0;
            owedRate = 0;
            savedRate = 0;
        }

        void shut() {
            days = 0;
        }

        int logLong() {
            return days * DAY_LONG;
        }

        boolean knows(int m) {
            return m % DAY_LONG < at(known, m / DAY_LONG);
        }

        int unknownMinutes() {
            int sum = 0;
            for (int d = 0; d < days; d++) {
                sum += DAY_LONG - Math.max(0, at(known, d));
            }
            return sum;
        }

        /** The least minute from here on that is known, of no FREE day, in OFFICE hours. */
        int firstOffice(int from) {
            for (int d = Math.max(0, from) / DAY_LONG; d < days; d++) {
                int m = Math.max(officeFrom, from - d * DAY_LONG);
                if (at(free, d) == 0 && m < Math.min(officeTo, at(known, d))) {
                    return d * DAY_LONG + m;
                }
            }
            return NONE;
        }

        void take(Port other) {
            copyAll(known, other.known);
            copyAll(free, other.free);
            days = other.days;
            contractNumber = other.contractNumber;
            officeFrom = other.officeFrom;
            officeTo = other.officeTo;
            graceLong = other.graceLong;
            shift = other.shift;
            thousandths = other.thousandths;
            owedRate = other.owedRate;
            savedRate = other.savedRate;
        }
    }

    /** The EVENTS of all PORTS in one row, in the order of PORT and minute, of equal ones as they came. */
    private static final class Events {
        final int[] keys = new int[MOST_EVENTS];
        final int[] spare = new int[MOST_EVENTS];
        int many;

        static int keyOf(int p, int m, int kind) {
            return (p * LOG_LONG + m) * 8 + kind;
        }

        int minuteAt(int i) {
            return at(keys, i) / 8 % LOG_LONG;
        }

        int kindAt(int i) {
            return at(keys, i) % 8;
        }

        /** How many EVENTS stand ahead of minute m of PORT p. */
        int indexOf(int p, int m) {
            int bound = keyOf(p, m, 0);
            int low = 0;
            int high = many;
            for (int turn = 0; turn < 32 && low < high; turn++) {
                int middle = (low + high) / 2;
                if (at(keys, middle) < bound) {
                    low = middle + 1;
                } else {
                    high = middle;
                }
            }
            return low;
        }

        int manyIn(int p, int m, int n) {
            return indexOf(p, m + n) - indexOf(p, m);
        }

        void add(int p, int m, int kind) {
            int i = indexOf(p, m + 1);
            slide(keys, i, keys, i + 1, many - i);
            put(keys, i, keyOf(p, m, kind));
            many++;
        }

        int remove(int p, int m, int n) {
            int from = indexOf(p, m);
            int to = indexOf(p, m + n);
            slide(keys, to, keys, from, many - to);
            many -= to - from;
            return to - from;
        }

        /** The EVENTS of n minutes from m on of PORT q take the place of those from t on of PORT p. */
        void copyRange(int q, int m, int p, int t, int n) {
            int from = indexOf(q, m);
            int came = manyIn(q, m, n);
            slide(keys, from, spare, 0, came);
            remove(p, t, n);
            int to = indexOf(p, t);
            if (many + came > MOST_EVENTS) {
                return;
            }
            slide(keys, to, keys, to + came, many - to);
            int further = keyOf(p, t, 0) - keyOf(q, m, 0);
            for (int i = 0; i < came; i++) {
                put(keys, to + i, at(spare, i) + further);
            }
            many += came;
        }

        /** The minute of the first EVENT of this KIND at or behind minute m. */
        int firstOf(int p, int m, int kind) {
            int end = indexOf(p, LOG_LONG);
            for (int i = indexOf(p, m); i < end; i++) {
                if (kindAt(i) == kind) {
                    return minuteAt(i);
                }
            }
            return NONE;
        }

        int stateAt(int p, int m) {
            int first = indexOf(p, 0);
            for (int i = indexOf(p, m + 1) - 1; i >= first; i--) {
                if (within(kindAt(i), BEGAN, SHIFTED)) {
                    return kindAt(i) - BEGAN + WORKING;
                }
            }
            return 0;
        }

        void take(Events other) {
            many = other.many;
            slide(other.keys, 0, keys, 0, many);
        }
    }

    /** The rows of a claim: so many minutes, told by this. */
    private static final class Claimed {
        final int[] lengths = new int[MOST_ROWS];
        final int[] whys = new int[MOST_ROWS];
        int rows;
        int portNumber = NONE;

        void begin(int p) {
            portNumber = p;
            rows = 0;
        }

        void add(int n, int why) {
            put(lengths, rows, n);
            put(whys, rows, why);
            rows++;
        }

        void take(Claimed other) {
            rows = other.rows;
            portNumber = other.portNumber;
            copyAll(lengths, other.lengths);
            copyAll(whys, other.whys);
        }
    }

    /** What follows from the LOG of a PORT: its minutes are first .. end - 1. */
    private static final class Stay {
        int good;
        int begin;
        int first;
        int end;
        long allowed;
        boolean counted;
        boolean ended;

        void read(Book book, int p) {
            Port port = book.portAt(p);
            Events events = book.events;
            int arrived = events.firstOf(p, 0, ARRIVED);
            int notice = events.firstOf(p, 0, NOTICE);
            boolean both = arrived != NONE && notice != NONE;
            good = both ? port.firstOffice(Math.max(arrived, notice)) : NONE;
            begin = good == NONE ? NONE : good + port.graceLong;
            counted = good != NONE && begin < port.logLong();
            allowed = book.terms.allowedBy(port.contractNumber, port.thousandths);
            int last = counted ? events.firstOf(p, begin, ENDED) : NONE;
            ended = last != NONE;
            first = counted ? begin : 0;
            end = ended ? last : counted ? port.logLong() : 0;
        }
    }

    /**
     * Goes through minutes of a PORT in stretches: all minutes of one are told by the same TERM.
     * The minutes here .. until - 1 are the stretch that step() has come to.
     */
    private static final class Walk {
        final Book book;
        final int[] rows = new int[PLACES];
        final int[] asked = new int[PLACES];
        int rowsMany;
        int askedMany;
        // The KINDS of those asked, one bit each, and those KINDS that more than one of them has.
        int some;
        int several;
        Port port;
        int here;
        int until;
        int end;
        int overFrom;
        boolean high;
        int nextEvent;
        int endEvent;
        int state;
        int halves;
        int why;

        Walk(Book book) {
            this.book = book;
            port = book.nowhere;
        }

        /** The next step() comes to minute from, the last one to minute to - 1; from overFrom on all are OVER. */
        void start(int p, int from, int to, int overFrom, boolean high) {
            port = book.portAt(p);
            here = from;
            until = from;
            end = to;
            this.overFrom = overFrom;
            this.high = high;
            nextEvent = book.events.indexOf(p, from + 1);
            endEvent = book.events.indexOf(p, LOG_LONG);
            state = book.events.stateAt(p, from);
            rowsMany = 0;
            int bare = rowOf(port.contractNumber + 1, 0);
            for (int row = rowOf(port.contractNumber, 0); row < bare; row++) {
                if (within(at(book.terms.kinds, row), ALLOW, HALF)) {
                    put(rows, rowsMany, row);
                    rowsMany++;
                }
            }
        }

        boolean step() {
            here = until;
            if (here >= end) {
                return false;
            }
            int day = here / DAY_LONG;
            int knownUntil = day * DAY_LONG + Math.max(0, at(port.known, day));
            if (here >= knownUntil) {
                until = Math.min(end, (day + 1) * DAY_LONG);
                why = UNKNOWN;
                halves = high ? 2 : 0;
                return true;
            }
            until = Math.min(end, knownUntil);
            readEvents();
            breakAt(overFrom);
            forgetAsked();
            for (int i = 0; i < rowsMany; i++) {
                int row = at(rows, i);
                boolean always = at(book.terms.kinds, row) == ALWAYS;
                if (always == (here >= overFrom) && spans(row)) {
                    addAsked(row);
                }
            }
            choose();
            return true;
        }

        void forgetAsked() {
            askedMany = 0;
            some = 0;
            several = 0;
        }

        void addAsked(int row) {
            put(asked, askedMany, row);
            askedMany++;
            int bit = 1 << at(book.terms.kinds, row);
            several |= some & bit;
            some |= bit;
        }

        /** The stretch ends at minute m if that lies inside it. */
        void breakAt(int m) {
            if (m > here && m < until) {
                until = m;
            }
        }

        void readEvents() {
            for (; nextEvent < endEvent; nextEvent++) {
                int m = book.events.minuteAt(nextEvent);
                if (m > here) {
                    breakAt(m);
                    return;
                }
                int kind = book.events.kindAt(nextEvent);
                if (within(kind, BEGAN, SHIFTED)) {
                    state = kind - BEGAN + WORKING;
                }
            }
        }

        /** Whether the SPAN has the minute here; the stretch is cut where that may change. */
        boolean spans(int row) {
            int sort = at(book.terms.sorts, row);
            int a = at(book.terms.firsts, row);
            int b = at(book.terms.seconds, row);
            int midnight = here / DAY_LONG * DAY_LONG;
            switch (sort) {
                case ALL_MINUTES: return true;
                case FREE_DAYS: return at(port.free, here / DAY_LONG) == 1;
                case STATED: return state == a;
                default: break;
            }
            int from = sort == HOURS ? midnight + a : a;
            int to = sort == HOURS ? midnight + b : b;
            breakAt(from);
            breakAt(to);
            if (sort == HOURS && a > b) {
                return here >= from || here < to;
            }
            return here >= from && here < to;
        }

        /** The latest of those asked that YIELDS to none of the others, else the latest, tells. */
        void choose() {
            why = NO_TERM;
            halves = 2;
            if (askedMany == 0) {
                return;
            }
            int teller = at(asked, askedMany - 1);
            for (int i = askedMany - 1; i >= 0; i--) {
                int row = at(asked, i);
                int bit = 1 << at(book.terms.kinds, row);
                int others = some & ~bit | several & bit;
                if ((at(book.terms.yielding, row) & others) == 0) {
                    teller = row;
                    break;
                }
            }
            why = teller % PLACES;
            halves = halvesBy(at(book.terms.kinds, teller), at(book.terms.amounts, teller));
        }

        int halvesBy(int kind, int amount) {
            boolean unless = kind == UNLESS || kind == ALWAYS && amount == 2;
            if (unless) {
                return state == WORKING ? 2 : 0;
            }
            if (kind == EXCEPT || kind == ALWAYS && amount == 1) {
                return 0;
            }
            return kind == HALF ? 1 : 2;
        }
    }

    /** The minutes of a GROUP, LOW or HIGH, and where they come to its LIMIT. */
    private static final class Group {
        final Book book;
        final Walk[] walks = new Walk[PORTS];
        final Stay[] stays = new Stay[PORTS];
        final Walk noWalk;
        final Stay noStay;
        int members;
        boolean high;
        int counting;
        boolean allEnded;
        long limit;
        // What the minutes that are not OVER add, and, behind settle(), all.
        long notOver;
        long halves;
        boolean reached;
        int once;
        // The last minute that is not OVER stands at once, and is this PORT's.
        int oncePort;
        // The PORTS, one bit each, whose walk has not come to its end.
        int running;

        Group(Book book) {
            this.book = book;
            noWalk = new Walk(book);
            noStay = new Stay();
            for (int p = 0; p < PORTS; p++) {
                walks[p] = new Walk(book);
                stays[p] = new Stay();
            }
        }

        Walk walkAt(int p) {
            return p >= 0 && p < walks.length ? walks[p] : noWalk;
        }

        Stay stayAt(int p) {
            return p >= 0 && p < stays.length ? stays[p] : noStay;
        }

        boolean isMember(int p) {
            return (members >> p & 1) == 1;
        }

        boolean isRunning(int p) {
            return (running >> p & 1) == 1;
        }

        void read(int members, boolean high) {
            this.members = members;
            this.high = high;
            counting = 0;
            allEnded = true;
            limit = 0;
            for (int p = 0; p < PORTS; p++) {
                if (!isMember(p)) {
                    continue;
                }
                Stay stay = stayAt(p);
                stay.read(book, p);
                if (stay.counted) {
                    counting++;
                    allEnded &= stay.ended;
                    limit += 2 * stay.allowed;
                }
            }
            findOnce();
        }

        /** Goes through the GROUP's minutes until the HALVES come to LIMIT, all as if none were OVER. */
        void findOnce() {
            reached = false;
            notOver = 0;
            int x = startAll();
            if (x == NEVER) {
                return;
            }
            if (limit == 0) {
                reach(x - 1, PORTS - 1);
                return;
            }
            for (int turn = 0; turn < MOST_TURNS && running != 0; turn++) {
                int next = nextChange(x);
                long each = halvesAt(x);
                if (each > 0 && notOver + each * (next - x) >= limit) {
                    int whole = (int) ((limit - notOver - 1) / each);
                    notOver += each * whole;
                    reachAt(x + whole);
                    return;
                }
                notOver += each * (next - x);
                x = next;
                stepAll(x);
            }
        }

        void reach(int place, int p) {
            reached = true;
            once = place;
            oncePort = p;
        }

        /** Starts the walks of all minutes; answers where the first one stands. */
        int startAll() {
            running = 0;
            int least = NEVER;
            for (int p = 0; p < PORTS; p++) {
                Stay stay = stayAt(p);
                if (!isMember(p) || stay.first >= stay.end) {
                    continue;
                }
                walkAt(p).start(p, stay.first, stay.end, NEVER, high);
                walkAt(p).step();
                running |= 1 << p;
                least = Math.min(least, book.portAt(p).shift + stay.first);
            }
            return least;
        }

        void stepAll(int x) {
            for (int p = 0; p < PORTS; p++) {
                boolean through = isRunning(p) && book.portAt(p).shift + walkAt(p).until <= x;
                if (through && !walkAt(p).step()) {
                    running &= ~(1 << p);
                }
            }
        }

        /** Where, behind x, the next stretch of a PORT begins or ends. */
        int nextChange(int x) {
            int least = NEVER;
            for (int p = 0; p < PORTS; p++) {
                if (isRunning(p)) {
                    int shift = book.portAt(p).shift;
                    int change = hasMinuteAt(p, x) ? walkAt(p).until : walkAt(p).here;
                    least = Math.min(least, shift + change);
                }
            }
            return least;
        }

        boolean hasMinuteAt(int p, int x) {
            return isRunning(p) && book.portAt(p).shift + walkAt(p).here <= x;
        }

        long halvesAt(int x) {
            long sum = 0;
            for (int p = 0; p < PORTS; p++) {
                sum += hasMinuteAt(p, x) ? walkAt(p).halves : 0;
            }
            return sum;
        }

        /** One of the minutes that stand at x, the least PORT's first, is the last that is not OVER. */
        void reachAt(int x) {
            for (int p = 0; p < PORTS; p++) {
                notOver += hasMinuteAt(p, x) ? walkAt(p).halves : 0;
                if (notOver >= limit) {
                    reach(x, p);
                    return;
                }
            }
        }

        int overFrom(int p) {
            if (!reached) {
                return NEVER;
            }
            return once - book.portAt(p).shift + (p > oncePort ? 0 : 1);
        }

        /** A walk through those of a PORT's minutes that are among from .. to - 1. */
        Walk walkIn(int p, int from, int to) {
            Stay stay = stayAt(p);
            Walk walk = walkAt(p);
            int start = Math.max(stay.first, Math.min(from, stay.end));
            walk.start(p, start, Math.min(to, stay.end), overFrom(p), high);
            return walk;
        }

        int halvesOf(int p, int from, int to) {
            Walk walk = walkIn(p, from, to);
            int sum = 0;
            for (int turn = 0; turn < MOST_TURNS && walk.step(); turn++) {
                sum += walk.halves * (walk.until - walk.here);
            }
            return sum;
        }

        int minutesBy(int p, int why) {
            Walk walk = walkIn(p, 0, LOG_LONG);
            int sum = 0;
            for (int turn = 0; turn < MOST_TURNS && walk.step(); turn++) {
                sum += walk.why == why ? walk.until - walk.here : 0;
            }
            return sum;
        }

        /** The first minute that a claim tells otherwise, as check() answers it; NONE if all are right. */
        int firstWrong(Claimed claimed) {
            Walk walk = walkIn(claimed.portNumber, 0, LOG_LONG);
            int row = 0;
            int left = at(claimed.lengths, 0);
            for (int turn = 0; turn < MOST_TURNS && walk.step(); turn++) {
                int m = walk.here;
                for (int more = 0; more <= MOST_ROWS && m < walk.until; more++) {
                    if (row >= claimed.rows || at(claimed.whys, row) != walk.why) {
                        return m;
                    }
                    int n = Math.min(left, walk.until - m);
                    m += n;
                    left -= n;
                    if (left == 0) {
                        row++;
                        left = at(claimed.lengths, row);
                    }
                }
            }
            return row < claimed.rows ? stayAt(claimed.portNumber).end : NONE;
        }

        /** Behind read(): counts the minutes that are OVER, too. */
        void settle() {
            halves = notOver;
            for (int p = 0; p < PORTS && reached; p++) {
                halves += isMember(p) ? halvesOf(p, overFrom(p), LOG_LONG) : 0;
            }
        }

        int minutes() {
            int sum = 0;
            for (int p = 0; p < PORTS; p++) {
                sum += isMember(p) ? stayAt(p).end - stayAt(p).first : 0;
            }
            return sum;
        }

        long owed() {
            return Math.max(0, halves - limit);
        }

        long saved() {
            return counting > 0 && allEnded ? Math.max(0, limit - halves) : 0;
        }

        long money() {
            Port port = book.portAt(leastPort());
            return owed() * port.owedRate / 2880 - saved() * port.savedRate / 2880;
        }

        int leastPort() {
            for (int p = 0; p < PORTS; p++) {
                if (isMember(p)) {
                    return p;
                }
            }
            return 0;
        }
    }
}
