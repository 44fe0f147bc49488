/** What the tests of the document share: one desk, checks of its answers, and the words that they test. */
abstract class Checks {
  static final int NONE = LaytimeDesk.NONE;
  static final int ALLOW = 0, EXCEPT = 1, UNLESS = 2, ALWAYS = 3, HALF = 4;
  static final int ALL = 0, HOURS = 1, FREE = 2, STATED = 3, MINUTES = 4;
  static final int ARRIVED = 0, NOTICE = 1, BERTHED = 2, BEGAN = 3, RAIN = 4, STOPPED = 5, SHIFTED = 6, ENDED = 7;
  static final int HALVES = 0, LIMIT = 1, ONCE = 2, OWED = 3, SAVED = 4, MONEY = 5, MANY = 6, LEAST = 7, COUNTING = 8;
  static final int GOOD = 0, BEGIN = 1, END = 2, ALLOWED = 3, DAYS = 4, EVENTS = 5, UNKNOWN = 6, CONTRACT = 7;
  static final boolean LOW = false, HIGH = true;
  static final int NEITHER = -2, GAP = -3;
  static final int LEAST_INT = Integer.MIN_VALUE, MOST_INT = Integer.MAX_VALUE;

  static LaytimeDesk x;

  private static String words = "";
  private static int row = 0;
  private static boolean holds = true;
  private static int holding = 0;
  private static int broken = 0;

  /** From here on, on a new desk, these words of the document are tested. */
  static void says(String sentence) {
    count();
    words = sentence;
    row = 0;
    fresh();
  }

  private static void count() {
    if (words.isEmpty()) return;
    if (holds) holding++; else broken++;
    holds = true;
  }

  static void finish() {
    count();
    System.out.println(holding + " sentences hold, " + broken + " do not");
    if (broken != 0 || holding == 0) System.exit(1);
  }

  static void fresh() { x = new LaytimeDesk(); }

  static void due(long got, long want) {
    row++;
    if (got == want) return;
    holds = false;
    System.out.println("\"" + words + "\", row " + row + " (" + line() + "): " + got + ", due is " + want);
  }

  private static StackTraceElement line() {
    for (StackTraceElement e : new Throwable().getStackTrace()) {
      if (!e.getClassName().equals("Checks")) return e;
    }
    return null;
  }

  /** A call that is not refused: its answer, and that status() tells so. */
  static void is(long got, long want) { due(got, want); due(x.status(0), 0); }
  static void is(boolean got, boolean want) { is(got ? 1 : 0, want ? 1 : 0); }
  static void yes(boolean got) { is(got, true); }
  /** A call that is refused for this REASON. */
  static void no(long got, int why) { due(got, NONE); due(x.status(0), why); }
  static void no(boolean got, int why) { due(got ? 1 : 0, 0); due(x.status(0), why); }

  /** A new desk: CONTRACT 0, PORT 0 of so many DAYS that arrived with notice at minute 0. */
  static void ship(int days) {
    fresh();
    x.contract();
    open(0, 0, days);
  }

  static void open(int p, int c, int days) {
    yes(x.port(p, c, days));
    yes(x.event(p, 0, ARRIVED));
    yes(x.event(p, 0, NOTICE));
  }

  static void term(int place, int kind, int sort, int a, int b) { yes(x.term(0, place, kind, sort, a, b)); }

  static void allow(int c, int place, int minutes) {
    yes(x.term(c, place, ALLOW, ALL, 0, 0));
    yes(x.amount(c, place, minutes));
  }

  /** So many minutes are allowed in CONTRACT 0 by a TERM at PLACE 59 that no minute asks. */
  static void allowAside(int minutes) {
    term(59, ALLOW, MINUTES, 0, 0);
    yes(x.amount(0, 59, minutes));
  }

  /** Fills a new desk with 5000 EVENTS: 50 in each of 90 DAYS of PORT 0 and of the first 10 of 11 of PORT 1. */
  static void full() {
    fresh();
    x.contract();
    yes(x.port(0, 0, 90));
    yes(x.port(1, 0, 11));
    for (int i = 0; i < 50; i++) yes(x.event(0, i * 20, i % 8));
    for (int d = 1; d < 90; d *= 2) is(x.copy(0, d, 0, 0, Math.min(d, 90 - d)), Math.min(d, 90 - d));
    is(x.copy(1, 0, 0, 0, 10), 10);
    due(x.status(7), 5000);
  }

  /** A new desk that holds something of all: a TERM, a HEADING, PORTS 0, 1 and 4, a GROUP, gaps, a claim. */
  static void laden() {
    ship(3);
    term(0, ALLOW, HOURS, 0, 1440);
    yes(x.amount(0, 0, 10));
    x.yields(0, 0, 3);
    yes(x.heading(0, 1, 44));
    open(1, 0, 2);
    open(4, 0, 1);
    yes(x.event(4, 0, ENDED));
    yes(x.rate(4, 1, 5000));
    yes(x.together(3));
    yes(x.tons(0, 5005));
    yes(x.office(0, 3, 1400, 5));
    yes(x.offset(0, 6));
    yes(x.rate(0, 2880, 8));
    yes(x.day(0, 1, false));
    is(x.tear(0, 2, 70), 0);
    is(x.free(0, 2, true), false);
    yes(x.event(0, 9, BEGAN));
    yes(x.claim(0));
    is(x.tell(2, 0), 1);
    is(x.check(0, LOW), 10);
  }

  /** What a laden desk answers to many questions. */
  static long[] look() {
    long[] all = new long[64];
    int n = 0;
    for (int p = 0; p < 2; p++) for (int what = 0; what < 8; what++) all[n++] = x.told(p, what);
    for (int p = 0; p < 2; p++) for (int what = 0; what < 9; what++) all[n++] = x.sum(p, what, HIGH);
    for (int what = 0; what < 5; what++) all[n++] = x.span(0, 0, what);
    for (int place = 0; place < 3; place++) all[n++] = x.kind(0, place);
    for (int what = 0; what < 2; what++) all[n++] = x.weight(0, what);
    for (int what = 6; what <= 8; what++) all[n++] = x.status(what);
    all[n++] = x.sum(4, MONEY, LOW);
    all[n++] = x.headed(0, 1);
    all[n++] = x.check(0, LOW);
    all[n++] = x.state(0, 9);
    all[n++] = x.why(0, 9, LOW);
    all[n++] = x.as(0, 0, NONE, LOW);
    all[n++] = x.by(0, GAP, LOW);
    all[n++] = x.counts(1, 0, 700, LOW);
    all[n++] = x.told(2, DAYS);
    return all;
  }

  /** The desk answers all as it did when that look was taken. */
  static void same(long[] was) {
    long[] now = look();
    for (int i = 0; i < was.length; i++) due(now[i], was[i]);
  }
}
