/** Each promise by its number: ordinary inputs, the edges that the document names, wrong inputs. */
public final class PromiseTest {
  private static final int NONE = LaytimeDesk.NONE;
  private static final int ALLOW = 0, EXCEPT = 1, UNLESS = 2, ALWAYS = 3, HALF = 4;
  private static final int ARRIVED = 0, NOTICE = 1, BERTHED = 2, BEGAN = 3, RAIN = 4, STOPPED = 5, SHIFTED = 6, ENDED = 7;
  private static final boolean LOW = false, HIGH = true;
  private static final int[] WILD = {-1, -2, Integer.MIN_VALUE, Integer.MAX_VALUE};

  private static int wrong = 0;
  private static int promise = 0;
  private static int row = 0;
  private static LaytimeDesk x;

  private static void begin(int number) {
    promise = number;
    row = 0;
    fresh();
  }
  private static void fresh() { x = new LaytimeDesk(); }
  private static void due(long got, long want) {
    row++;
    if (got == want) return;
    wrong++;
    StackTraceElement at = null;
    for (StackTraceElement e : new Throwable().getStackTrace()) {
      if (!e.getMethodName().equals("due") && !e.getMethodName().equals("no") && !e.getMethodName().equals("yes")) { at = e; break; }
    }
    System.out.println("promise " + promise + ", row " + row + " (" + at + "): " + got + ", due is " + want);
  }
  private static void yes(boolean got) { due(got ? 1 : 0, 1); due(x.status(0), 0); }
  private static void no(boolean got, int why) { due(got ? 1 : 0, 0); due(x.status(0), why); }
  private static void no(long got, int why) { due(got, NONE); due(x.status(0), why); }
  /** An answer of a call that is not refused. */
  private static void is(long got, long want) { due(got, want); due(x.status(0), 0); }
  private static void is(boolean got, boolean want) { due(got ? 1 : 0, want ? 1 : 0); due(x.status(0), 0); }

  /** A new desk: CONTRACT 0, PORT 0 of so many DAYS that arrived with notice at minute 0. */
  private static void ship(int days) {
    fresh();
    x.contract();
    open(0, 0, days);
  }
  private static void open(int p, int c, int days) {
    yes(x.port(p, c, days));
    yes(x.event(p, 0, ARRIVED));
    yes(x.event(p, 0, NOTICE));
  }
  private static void term(int place, int kind, int sort, int a, int b) { yes(x.term(0, place, kind, sort, a, b)); }
  private static void allow(int c, int place, int minutes) {
    yes(x.term(c, place, ALLOW, 0, 0, 0));
    yes(x.amount(c, place, minutes));
  }

  private static void newObject() {
    begin(1);
    due(LaytimeDesk.NONE, -1);
    due(x.status(0), 0);
    for (int i = 1; i <= 8; i++) due(x.status(i), 0);
    for (int p = 0; p < 8; p++) no(x.told(p, 4), 2);
    no(x.kind(0, 0), 2);
    no(x.back(), 2);
    due(x.check(0, LOW), -4);
    due(x.status(0), 2);
    no(x.tell(1, 0), 2);
  }

  private static void contract() {
    begin(2);
    for (int c = 0; c < 40; c++) {
      is(x.contract(), c);
      is(x.kind(c, 0), 6);
      is(x.kind(c, 59), 6);
    }
    due(x.status(6), 40);
    no(x.contract(), 5);
    no(x.contract(), 5);
    due(x.status(6), 40);
    due(x.status(5), 2);
  }

  private static void term() {
    begin(3);
    no(x.term(0, 0, 0, 0, 0, 0), 2);
    no(x.term(0, 0, 5, 0, 0, 0), 1);
    x.contract();
    for (int kind = 0; kind < 5; kind++) {
      yes(x.term(0, kind, kind, 0, -7, 999999));
      is(x.kind(0, kind), kind);
      is(x.span(0, kind, 0), 0);
      is(x.span(0, kind, 1), -7);
      is(x.span(0, kind, 2), 999999);
    }
    yes(x.amount(0, 4, 5));
    is(x.yields(0, 4, 9), 0);
    yes(x.term(0, 4, 0, 2, -7, -8));
    is(x.span(0, 4, 3), 0);
    is(x.span(0, 4, 4), 0);
    yes(x.heading(0, 5, 1));
    yes(x.term(0, 5, 1, 3, 4, -1));
    is(x.kind(0, 5), 1);
    yes(x.term(0, 59, 1, 1, 0, 1440));
    yes(x.term(0, 59, 1, 1, 1440, 0));
    yes(x.term(0, 59, 1, 4, 0, 129600));
    yes(x.term(0, 59, 1, 4, 129600, 0));
    yes(x.term(0, 59, 1, 3, 0, Integer.MIN_VALUE));
    no(x.term(0, 59, 1, 1, 1441, 0), 1);
    no(x.term(0, 59, 1, 1, 0, 1441), 1);
    no(x.term(0, 59, 1, 1, -1, 0), 1);
    no(x.term(0, 59, 1, 1, 0, -1), 1);
    no(x.term(0, 59, 1, 3, 5, 0), 1);
    no(x.term(0, 59, 1, 3, -1, 0), 1);
    no(x.term(0, 59, 1, 4, 129601, 0), 1);
    no(x.term(0, 59, 1, 4, 0, 129601), 1);
    no(x.term(0, 59, 1, 4, -1, 0), 1);
    no(x.term(0, 59, 1, 4, 0, -1), 1);
    no(x.term(0, 59, 5, 0, 0, 0), 1);
    no(x.term(0, 59, 0, 5, 0, 0), 1);
    no(x.term(0, 60, 0, 0, 0, 0), 1);
    no(x.term(40, 0, 0, 0, 0, 0), 1);
    no(x.term(39, 0, 0, 0, 0, 0), 2);
    no(x.term(39, 60, 0, 0, 0, 0), 1);
    for (int w : WILD) {
      no(x.term(w, 0, 0, 0, 0, 0), 1);
      no(x.term(0, w, 0, 0, 0, 0), 1);
      no(x.term(0, 0, w, 0, 0, 0), 1);
      no(x.term(0, 0, 0, w, 0, 0), 1);
    }
    is(x.span(0, 59, 0), 3);
    is(x.span(0, 59, 2), Integer.MIN_VALUE);
  }

  private static void yields() {
    begin(4);
    no(x.yields(0, 0, 0), 2);
    x.contract();
    no(x.yields(0, 0, 0), 2);
    no(x.yields(0, 0, 32), 1);
    yes(x.heading(0, 1, 1));
    no(x.yields(0, 1, 0), 3);
    no(x.yields(0, 1, -1), 1);
    term(2, HALF, 0, 0, 0);
    is(x.yields(0, 2, 31), 0);
    is(x.yields(0, 2, 4), 31);
    no(x.yields(0, 2, 32), 1);
    no(x.yields(0, 2, -1), 1);
    is(x.span(0, 2, 3), 4);
    no(x.yields(0, 60, 4), 1);
    no(x.yields(40, 2, 4), 1);
    no(x.yields(1, 2, 4), 2);
  }

  /** How YIELDS choose the one that tells a minute. */
  private static void yielding() {
    promise = 4;
    ship(1);
    allow(0, 0, 1440);
    term(1, EXCEPT, 0, 0, 0);
    term(2, HALF, 0, 0, 0);
    is(x.why(0, 5, LOW), 2);
    x.yields(0, 2, 1 << EXCEPT);
    is(x.why(0, 5, LOW), 1);
    x.yields(0, 1, 1 << HALF);
    is(x.why(0, 5, LOW), 0);
    x.yields(0, 0, 1 << HALF);
    is(x.why(0, 5, LOW), 2);
    // The bit of its own KIND: it yields to another one alone, not to itself.
    x.yields(0, 2, 1 << HALF);
    is(x.why(0, 5, LOW), 2);
    term(3, HALF, 0, 0, 0);
    is(x.why(0, 5, LOW), 3);
    x.yields(0, 3, 1 << HALF);
    is(x.why(0, 5, LOW), 3);
    x.yields(0, 2, 0);
    is(x.why(0, 5, LOW), 2);
    // One that is not asked is yielded to by none.
    term(3, ALWAYS, 0, 0, 0);
    x.yields(0, 2, 1 << ALWAYS);
    is(x.why(0, 5, LOW), 2);
    term(3, EXCEPT, 1, 600, 700);
    x.yields(0, 3, 0);
    x.yields(0, 2, 1 << EXCEPT);
    yes(x.strike(0, 1));
    is(x.why(0, 599, LOW), 2);
    is(x.why(0, 600, LOW), 3);
    is(x.why(0, 699, LOW), 3);
    is(x.why(0, 700, LOW), 2);
  }

  private static void amount() {
    begin(5);
    x.contract();
    no(x.amount(0, 0, 0), 2);
    no(x.amount(0, 0, 1000001), 1);
    yes(x.heading(0, 1, 1));
    no(x.amount(0, 1, 0), 3);
    no(x.amount(0, 1, -1000001), 1);
    term(2, ALLOW, 0, 0, 0);
    yes(x.amount(0, 2, 1000000));
    is(x.span(0, 2, 4), 1000000);
    yes(x.amount(0, 2, -1000000));
    is(x.span(0, 2, 4), -1000000);
    no(x.amount(0, 2, 1000001), 1);
    no(x.amount(0, 2, -1000001), 1);
    no(x.amount(0, 60, 1), 1);
    no(x.amount(1, 2, 1), 2);
    no(x.amount(-1, 2, 1), 1);
    is(x.span(0, 2, 4), -1000000);
  }

  private static void heading() {
    begin(6);
    no(x.heading(0, 0, 5), 2);
    x.contract();
    yes(x.heading(0, 0, Integer.MIN_VALUE));
    is(x.headed(0, 0), Integer.MIN_VALUE);
    is(x.kind(0, 0), 5);
    yes(x.heading(0, 0, NONE));
    is(x.headed(0, 0), NONE);
    term(0, ALLOW, 0, 0, 0);
    yes(x.heading(0, 0, 8));
    is(x.kind(0, 0), 5);
    no(x.heading(0, 60, 5), 1);
    no(x.heading(0, -1, 5), 1);
    no(x.heading(40, 0, 5), 1);
    no(x.heading(1, 0, 5), 2);
    ship(1);
    yes(x.heading(0, 0, 8));
    is(x.told(0, 3), 0);
    is(x.why(0, 0, LOW), -2);
  }

  private static void strike() {
    begin(7);
    no(x.strike(0, 0), 2);
    x.contract();
    no(x.strike(0, 0), 2);
    term(0, ALLOW, 0, 0, 0);
    yes(x.strike(0, 0));
    is(x.kind(0, 0), 6);
    no(x.strike(0, 0), 2);
    yes(x.heading(0, 59, 1));
    yes(x.strike(0, 59));
    is(x.kind(0, 59), 6);
    no(x.strike(0, 60), 1);
    no(x.strike(-1, 0), 1);
    ship(1);
    allow(0, 0, 10);
    yes(x.strike(0, 0));
    is(x.sum(0, 1, LOW), 0);
  }

  private static void kind() {
    begin(8);
    no(x.kind(0, 0), 2);
    no(x.kind(40, 0), 1);
    no(x.kind(0, 60), 1);
    no(x.kind(0, -1), 1);
    x.contract();
    is(x.kind(0, 0), 6);
    term(0, HALF, 0, 0, 0);
    is(x.kind(0, 0), 4);
    yes(x.heading(0, 0, 3));
    is(x.kind(0, 0), 5);
  }

  private static void headed() {
    begin(9);
    no(x.headed(0, 0), 2);
    x.contract();
    no(x.headed(0, 0), 2);
    term(0, HALF, 0, 0, 0);
    no(x.headed(0, 0), 3);
    yes(x.heading(0, 0, 77));
    is(x.headed(0, 0), 77);
    no(x.headed(0, 60), 1);
    no(x.headed(-1, 0), 1);
  }

  private static void span() {
    begin(10);
    no(x.span(0, 0, 0), 2);
    no(x.span(0, 0, 5), 1);
    x.contract();
    no(x.span(0, 0, 0), 2);
    no(x.span(0, 0, -1), 1);
    yes(x.heading(0, 1, 5));
    no(x.span(0, 1, 0), 3);
    no(x.span(0, 1, 5), 1);
    term(2, EXCEPT, 1, 1300, 200);
    x.yields(0, 2, 21);
    yes(x.amount(0, 2, -9));
    int[] want = {1, 1300, 200, 21, -9};
    for (int what = 0; what < 5; what++) is(x.span(0, 2, what), want[what]);
    no(x.span(0, 2, 5), 1);
    no(x.span(0, 60, 0), 1);
  }

  /** SPANS of each SORT, seen in which TERM tells a minute. */
  private static void spans() {
    promise = 10;
    ship(3);
    allow(0, 0, 5000);
    term(1, EXCEPT, 1, 1080, 480);
    is(x.why(0, 479, LOW), 1);
    is(x.why(0, 480, LOW), 0);
    is(x.why(0, 1079, LOW), 0);
    is(x.why(0, 1080, LOW), 1);
    is(x.why(0, 1440 + 479, LOW), 1);
    is(x.why(0, 1440 + 480, LOW), 0);
    term(1, EXCEPT, 1, 480, 480);
    is(x.by(0, 1, LOW), 0);
    term(1, EXCEPT, 1, 0, 1440);
    is(x.by(0, 1, LOW), 4320);
    term(1, EXCEPT, 1, 1440, 0);
    is(x.by(0, 1, LOW), 0);
    term(1, EXCEPT, 1, 1440, 1);
    is(x.by(0, 1, LOW), 3);
    term(1, EXCEPT, 2, 0, 0);
    is(x.by(0, 1, LOW), 0);
    is(x.free(0, 1, true), false);
    is(x.by(0, 1, LOW), 1440);
    is(x.why(0, 1439, LOW), 0);
    is(x.why(0, 1440, LOW), 1);
    is(x.why(0, 2879, LOW), 1);
    is(x.why(0, 2880, LOW), 0);
    yes(x.event(0, 100, RAIN));
    yes(x.event(0, 150, BEGAN));
    yes(x.event(0, 1500, RAIN));
    term(1, EXCEPT, 3, 2, 0);
    is(x.by(0, 1, LOW), 50 + 2820);
    is(x.why(0, 100, LOW), 1);
    is(x.why(0, 150, LOW), 0);
    term(1, EXCEPT, 3, 0, 0);
    is(x.by(0, 1, LOW), 100);
    term(1, EXCEPT, 4, 1000, 3000);
    is(x.by(0, 1, LOW), 2000);
    is(x.why(0, 999, LOW), 0);
    is(x.why(0, 1000, LOW), 1);
    is(x.why(0, 2999, LOW), 1);
    is(x.why(0, 3000, LOW), 0);
    term(1, EXCEPT, 4, 3000, 1000);
    is(x.by(0, 1, LOW), 0);
    term(1, EXCEPT, 4, 4319, 129600);
    is(x.by(0, 1, LOW), 1);
  }

  private static void port() {
    begin(11);
    no(x.port(0, 0, 1), 2);
    no(x.port(8, 0, 1), 1);
    no(x.port(0, 0, 91), 1);
    x.contract();
    yes(x.port(7, 0, 90));
    is(x.told(7, 4), 90);
    no(x.port(0, 0, 0), 1);
    no(x.port(0, 0, 91), 1);
    no(x.port(0, 40, 1), 1);
    no(x.port(0, 1, 1), 2);
    no(x.port(-1, 0, 1), 1);
    no(x.port(8, 0, 1), 1);
    no(x.told(0, 4), 2);
    x.contract();
    open(7, 1, 2);
    is(x.told(7, 7), 1);
    yes(x.tons(7, 12345));
    yes(x.office(7, 5, 6, 7));
    yes(x.offset(7, 9));
    yes(x.rate(7, 10, 11));
    is(x.free(7, 1, true), false);
    is(x.tear(7, 0, 500), 0);
    allow(0, 0, 1);
    // Open anew, it has nothing of what it had.
    yes(x.port(7, 0, 2));
    due(x.status(7), 0);
    is(x.told(7, 0), NONE);
    is(x.told(7, 5), 0);
    is(x.told(7, 6), 0);
    is(x.told(7, 7), 0);
    is(x.weight(7, 0), 0);
    is(x.weight(7, 1), 0);
    yes(x.event(7, 0, ARRIVED));
    yes(x.event(7, 0, NOTICE));
    is(x.told(7, 0), 0);
    is(x.told(7, 1), 0);
    is(x.sum(7, 2, LOW), 0);
    is(x.sum(7, 3, LOW), 5758);
    is(x.sum(7, 5, LOW), 0);
    is(x.free(7, 1, false), false);
    yes(x.event(7, 2000, ENDED));
    yes(x.amount(0, 0, 3000));
    is(x.sum(7, 4, LOW), 2000);
    is(x.sum(7, 5, LOW), 0);
    // It is a GROUP of its own; the others stay together.
    open(0, 0, 1);
    open(1, 0, 1);
    open(2, 0, 1);
    yes(x.together(7));
    is(x.sum(0, 8, LOW), 3);
    yes(x.port(0, 0, 1));
    is(x.sum(1, 7, LOW), 1);
    is(x.sum(1, 8, LOW), 2);
    is(x.sum(2, 7, LOW), 1);
    is(x.sum(0, 7, LOW), 0);
    is(x.sum(0, 8, LOW), 0);
  }

  private static void close() {
    begin(12);
    no(x.close(0), 2);
    no(x.close(8), 1);
    no(x.close(-1), 1);
    ship(2);
    open(3, 0, 2);
    yes(x.together(9));
    due(x.status(7), 4);
    yes(x.close(0));
    due(x.status(7), 2);
    no(x.close(0), 2);
    no(x.sum(0, 0, LOW), 2);
    is(x.sum(3, 7, LOW), 3);
    open(0, 0, 1);
    is(x.sum(3, 7, LOW), 3);
    is(x.sum(3, 8, LOW), 1);
    is(x.told(0, 5), 2);
  }

  private static void event() {
    begin(13);
    no(x.event(0, 0, 0), 2);
    no(x.event(0, 129600, 0), 1);
    no(x.event(0, 0, 8), 1);
    x.contract();
    yes(x.port(0, 0, 2));
    for (int kind = 0; kind < 8; kind++) yes(x.event(0, 2879, kind));
    is(x.told(0, 5), 8);
    no(x.event(0, 0, 8), 1);
    no(x.event(0, 0, -1), 1);
    no(x.event(0, -1, 0), 1);
    no(x.event(0, 2880, 0), 1);
    no(x.event(8, 0, 0), 1);
    no(x.event(1, 0, 0), 2);
    yes(x.day(0, 0, false));
    no(x.event(0, 0, 0), 2);
    no(x.event(0, 1439, 0), 2);
    is(x.tear(0, 1, 60), 8);
    no(x.event(0, 1500, 0), 2);
    yes(x.event(0, 1499, 0));
    due(x.status(7), 1);
    // Those of one minute stand in the order in which they came.
    ship(1);
    yes(x.event(0, 50, BEGAN));
    yes(x.event(0, 50, SHIFTED));
    yes(x.event(0, 50, RAIN));
    yes(x.event(0, 40, STOPPED));
    is(x.state(0, 49), 3);
    is(x.state(0, 50), 2);
  }

  /** Fills the desk with 5000 EVENTS: 50 in each of 90 DAYS of PORT 0, 500 of PORT 1. */
  private static void full() {
    fresh();
    x.contract();
    yes(x.port(0, 0, 90));
    yes(x.port(1, 0, 11));
    for (int i = 0; i < 50; i++) yes(x.event(0, i * 20, i % 8));
    for (int d = 1; d < 90; d *= 2) is(x.copy(0, d, 0, 0, Math.min(d, 90 - d)), Math.min(d, 90 - d));
    is(x.copy(1, 0, 0, 0, 10), 10);
    due(x.status(7), 5000);
  }

  private static void fullOfEvents() {
    promise = 13;
    full();
    no(x.event(1, 14400, 0), 5);
    no(x.event(0, 0, 0), 5);
    no(x.event(0, 0, 9), 1);
    no(x.event(2, 0, 0), 2);
    yes(x.day(1, 0, false));
    due(x.status(7), 4950);
    no(x.event(1, 0, 0), 2);
    yes(x.event(1, 14400, 0));
    due(x.status(7), 4951);
    yes(x.close(0));
    due(x.status(7), 451);
  }

  private static void day() {
    begin(14);
    no(x.day(0, 0, true), 2);
    no(x.day(0, 90, true), 1);
    ship(3);
    is(x.tear(0, 0, 700), 0);
    yes(x.event(0, 1440, BEGAN));
    yes(x.event(0, 2880, RAIN));
    yes(x.day(0, 1, false));
    is(x.told(0, 6), 740 + 1440);
    is(x.told(0, 5), 3);
    is(x.state(0, 699), 0);
    no(x.state(0, 700), 2);
    no(x.state(0, 1440), 2);
    is(x.state(0, 2880), 2);
    yes(x.day(0, 1, true));
    is(x.told(0, 6), 740);
    is(x.told(0, 5), 3);
    is(x.state(0, 1440), 0);
    yes(x.day(0, 0, true));
    is(x.told(0, 6), 0);
    is(x.told(0, 5), 1);
    yes(x.day(0, 2, false));
    yes(x.day(0, 2, false));
    is(x.told(0, 5), 0);
    no(x.day(0, 3, true), 1);
    no(x.day(0, -1, true), 1);
    no(x.day(0, 90, true), 1);
    no(x.day(1, 2, true), 2);
    no(x.day(8, 2, true), 1);
  }

  private static void tear() {
    begin(15);
    no(x.tear(0, 0, 0), 2);
    no(x.tear(0, 0, 1440), 1);
    ship(3);
    yes(x.event(0, 1500, BEGAN));
    yes(x.event(0, 1600, BEGAN));
    yes(x.event(0, 1600, RAIN));
    yes(x.event(0, 2879, ENDED));
    yes(x.event(0, 2880, STOPPED));
    is(x.tear(0, 1, 1439), 1);
    is(x.told(0, 6), 1);
    is(x.tear(0, 1, 160), 2);
    is(x.tear(0, 1, 900), 0);
    is(x.told(0, 6), 1280);
    is(x.state(0, 1599), 1);
    no(x.state(0, 1600), 2);
    is(x.state(0, 2880), 3);
    is(x.tear(0, 1, 0), 1);
    is(x.told(0, 6), 1440);
    is(x.tear(0, 1, 5), 0);
    no(x.tear(0, 1, 1440), 1);
    no(x.tear(0, 1, -1), 1);
    no(x.tear(0, 3, 5), 1);
    no(x.tear(0, 90, 5), 1);
    yes(x.day(0, 1, false));
    no(x.tear(0, 1, 5), 2);
    no(x.tear(0, 1, 1440), 1);
    no(x.tear(1, 0, 5), 2);
    is(x.told(0, 5), 3);
  }

  private static void copy() {
    begin(16);
    no(x.copy(0, 0, 0, 0, 0), 2);
    no(x.copy(0, 0, 0, 90, 0), 1);
    ship(5);
    open(1, 0, 3);
    no(x.copy(0, 0, 2, 0, 1), 2);
    no(x.copy(2, 0, 0, 0, 1), 2);
    no(x.copy(0, 5, 2, 0, 1), 1);
    no(x.copy(0, 0, 1, 3, 1), 1);
    no(x.copy(0, -1, 1, 0, 1), 1);
    no(x.copy(0, 0, 1, 0, 91), 1);
    no(x.copy(0, 0, 1, 0, -1), 1);
    no(x.copy(8, 0, 1, 0, 1), 1);
    is(x.copy(0, 0, 1, 0, 0), 0);
    yes(x.event(1, 10, BEGAN));
    yes(x.event(1, 10, RAIN));
    is(x.tear(1, 1, 30), 0);
    yes(x.event(1, 1440 + 29, STOPPED));
    yes(x.day(1, 2, false));
    is(x.free(1, 0, true), false);
    is(x.copy(0, 1, 1, 0, 3), 3);
    is(x.told(0, 5), 2 + 5);
    is(x.told(0, 6), 1410 + 1440);
    is(x.state(0, 1440 + 10), 2);
    is(x.state(0, 1440 + 9), 0);
    is(x.state(0, 2880 + 29), 3);
    no(x.state(0, 2880 + 30), 2);
    no(x.state(0, 3 * 1440), 2);
    is(x.free(0, 1, false), false);
    // What comes takes the place of what was there.
    is(x.copy(0, 1, 0, 4, 1), 1);
    is(x.told(0, 5), 2 + 1);
    // Fewer than n: behind the end of either LOG.
    due(x.copy(0, 4, 1, 0, 2), 1);
    due(x.status(0), 4);
    is(x.told(0, 5), 2 + 1 + 4);
    due(x.copy(0, 0, 1, 2, 90), 1);
    due(x.status(0), 4);
    due(x.status(4), 2);
    is(x.told(0, 5), 1 + 4);
    no(x.state(0, 0), 2);
  }

  private static void copyOfItself() {
    promise = 16;
    ship(4);
    for (int d = 0; d < 4; d++) yes(x.event(0, d * 1440 + d, BEGAN + d % 4));
    yes(x.event(0, 2, BERTHED));
    // DAYS as they were at first, though they overlap: each d + 1 is what d was.
    is(x.copy(0, 1, 0, 0, 3), 3);
    for (int d = 0; d < 3; d++) is(x.state(0, (d + 1) * 1440 + d), 1 + d);
    due(x.status(7), 4 + 4 + 1 + 1);
    is(x.copy(0, 0, 0, 1, 3), 3);
    for (int d = 0; d < 3; d++) is(x.state(0, d * 1440 + d), 1 + d);
    is(x.state(0, 3 * 1440 + 2), 3);
    is(x.copy(0, 2, 0, 2, 2), 2);
    is(x.state(0, 3 * 1440 + 2), 3);
    due(x.copy(0, 1, 0, 0, 4), 3);
    due(x.status(0), 4);
  }

  private static void copyWhenFull() {
    promise = 16;
    full();
    // One more DAY of EVENTS does not fit, the same in the place of another does.
    due(x.copy(1, 10, 0, 0, 1), 0);
    due(x.status(0), 5);
    is(x.copy(1, 0, 0, 0, 10), 10);
    is(x.copy(0, 0, 1, 10, 1), 1);
    due(x.status(7), 4950);
    is(x.copy(1, 10, 0, 1, 1), 1);
    due(x.status(7), 5000);
    is(x.tear(1, 3, 500), 25);
    // DAY 3 comes with fewer, DAY 4 goes with more: 5000 again, then the next is too many.
    due(x.copy(1, 3, 0, 1, 90), 8);
    due(x.status(0), 4);
    due(x.status(7), 5000);
    yes(x.day(1, 9, false));
    yes(x.day(1, 10, false));
    is(x.copy(1, 8, 0, 1, 3), 3);
    no(x.event(1, 0, 0), 5);
    // The DAYS that come have 50 and 60, those that go 50 and 50: there is room for the first alone.
    full();
    is(x.tear(0, 2, 800), 10);
    for (int i = 0; i < 10; i++) yes(x.event(0, 1440, BERTHED));
    due(x.copy(1, 0, 0, 0, 2), 1);
    due(x.status(0), 5);
    is(x.copy(1, 0, 0, 2, 2), 2);
    due(x.status(7), 4990);
    is(x.copy(0, 89, 0, 1, 1), 1);
    due(x.status(7), 5000);
    // DAY 1 comes to 2 with the 60 that it had at first.
    due(x.copy(0, 1, 0, 0, 2), 1);
    due(x.status(0), 5);
    due(x.status(7), 4990);
    is(x.copy(0, 1, 0, 89, 1), 1);
    due(x.status(7), 5000);
    due(x.copy(0, 2, 0, 1, 1), 0);
    due(x.status(0), 5);
  }

  private static void free() {
    begin(17);
    no(x.free(0, 0, true), 2);
    no(x.free(0, 90, true), 1);
    ship(2);
    is(x.free(0, 1, true), false);
    is(x.free(0, 1, true), true);
    is(x.free(0, 0, false), false);
    is(x.told(0, 0), 0);
    is(x.free(0, 0, true), false);
    is(x.told(0, 0), NONE);
    is(x.free(0, 1, false), true);
    is(x.told(0, 0), 1440);
    is(x.free(0, 1, false), false);
    no(x.free(0, 2, true), 1);
    no(x.free(0, -1, true), 1);
    no(x.free(1, 0, true), 2);
    yes(x.day(0, 0, false));
    no(x.free(0, 0, false), 2);
    yes(x.day(0, 0, true));
    is(x.free(0, 0, false), true);
  }

  private static void tons() {
    begin(18);
    no(x.tons(0, 0), 2);
    no(x.tons(0, -1), 1);
    ship(1);
    yes(x.tons(0, 100000000L));
    no(x.tons(0, 100000001L), 1);
    no(x.tons(0, -1), 1);
    no(x.tons(0, Long.MAX_VALUE), 1);
    no(x.tons(0, 1L << 32), 1);
    no(x.tons(8, 1), 1);
    is(x.weight(0, 0), 100000);
    yes(x.tons(0, 0));
    is(x.weight(0, 0), 0);
  }

  private static void office() {
    begin(19);
    no(x.office(0, 0, 0, 0), 2);
    no(x.office(0, 0, 0, 100001), 1);
    ship(90);
    yes(x.office(0, 540, 1020, 100000));
    is(x.told(0, 0), 540);
    is(x.told(0, 1), 100540);
    is(x.told(0, 2), 129600);
    no(x.office(0, 1441, 0, 0), 1);
    no(x.office(0, 0, 1441, 0), 1);
    no(x.office(0, -1, 0, 0), 1);
    no(x.office(0, 0, -1, 0), 1);
    no(x.office(0, 0, 0, -1), 1);
    no(x.office(0, 0, 0, 100001), 1);
    is(x.told(0, 1), 100540);
    yes(x.office(0, 600, 600, 0));
    is(x.told(0, 0), NONE);
    yes(x.office(0, 1440, 1440, 0));
    is(x.told(0, 0), NONE);
    yes(x.office(0, 1439, 1440, 1));
    is(x.told(0, 0), 1439);
    is(x.told(0, 1), 1440);
  }

  private static void offset() {
    begin(20);
    no(x.offset(0, 0), 2);
    no(x.offset(0, -1), 1);
    ship(1);
    allow(0, 0, 10);
    is(x.sum(0, 2, LOW), 9);
    yes(x.offset(0, 1000000));
    is(x.sum(0, 2, LOW), 1000009);
    no(x.offset(0, 1000001), 1);
    no(x.offset(0, -1), 1);
    no(x.offset(8, 0), 1);
    is(x.sum(0, 2, LOW), 1000009);
    is(x.why(0, 9, LOW), 0);
    is(x.why(0, 10, LOW), -2);
  }

  private static void rate() {
    begin(21);
    no(x.rate(0, 0, 0), 2);
    no(x.rate(0, -1, 0), 1);
    ship(1);
    yes(x.rate(0, 1000000000L, 1000000000L));
    is(x.sum(0, 5, LOW), 1000000000L);
    no(x.rate(0, 1000000001L, 0), 1);
    no(x.rate(0, 0, 1000000001L), 1);
    no(x.rate(0, -1, 0), 1);
    no(x.rate(0, 0, -1), 1);
    no(x.rate(0, 1L << 40, 0), 1);
    no(x.rate(-1, 0, 0), 1);
    is(x.sum(0, 5, LOW), 1000000000L);
    yes(x.rate(0, 0, 7));
    is(x.sum(0, 5, LOW), 0);
  }

  private static void together() {
    begin(22);
    yes(x.together(0));
    no(x.together(1), 2);
    no(x.together(256), 1);
    no(x.together(-1), 1);
    ship(1);
    open(1, 0, 1);
    open(7, 0, 1);
    no(x.together(4), 2);
    no(x.together(1 + 4), 2);
    yes(x.together(1 + 128));
    is(x.sum(7, 7, LOW), 0);
    is(x.sum(0, 8, LOW), 2);
    is(x.sum(1, 8, LOW), 1);
    no(x.together(255), 2);
    is(x.sum(7, 7, LOW), 0);
    yes(x.together(2 + 128));
    is(x.sum(7, 7, LOW), 1);
    is(x.sum(0, 8, LOW), 1);
    yes(x.together(1));
    is(x.sum(7, 7, LOW), 7);
    yes(x.together(131));
    is(x.sum(1, 8, LOW), 3);
    yes(x.together(0));
    is(x.sum(1, 8, LOW), 1);
  }

  /** Minutes of a GROUP stand in one row; of equal ones the least PORT is first. */
  private static void oneSum() {
    promise = 22;
    ship(1);
    allow(0, 0, 5);
    x.contract();
    allow(1, 0, 0);
    open(1, 1, 1);
    open(2, 1, 1);
    yes(x.together(3));
    // LIMIT 10: minutes 0 and 1 of both are 8; PORT 0's minute 2 comes to 10.
    is(x.sum(1, 1, LOW), 10);
    is(x.sum(1, 2, LOW), 2);
    is(x.why(0, 2, LOW), 0);
    is(x.why(0, 3, LOW), -2);
    is(x.why(1, 1, LOW), 0);
    is(x.why(1, 2, LOW), -2);
    // PORT 1 later by two minutes: PORT 0 adds 2, 2, then both; 8 behind place 2, 10 with PORT 0's minute 3.
    yes(x.offset(1, 2));
    is(x.sum(0, 2, LOW), 3);
    is(x.why(0, 3, LOW), 0);
    is(x.why(1, 0, LOW), 0);
    is(x.why(1, 1, LOW), -2);
    // HALF in PORT 1: 2 4 6+1 8+.. : place 2 is 7, PORT 0's minute 3 comes to 9, PORT 1's minute 1 to 10.
    yes(x.term(1, 1, HALF, 0, 0, 0));
    is(x.sum(0, 2, LOW), 3);
    is(x.why(0, 3, LOW), 0);
    is(x.why(0, 4, LOW), -2);
    is(x.why(1, 1, LOW), 1);
    is(x.why(1, 2, LOW), -2);
    // Far behind it adds nothing before.
    yes(x.offset(1, 1000000));
    is(x.sum(0, 2, LOW), 4);
    is(x.why(1, 0, LOW), -2);
    is(x.sum(0, 6, LOW), 2880);
    is(x.sum(2, 2, LOW), -1);
    is(x.sum(2, 3, LOW), 2880);
    // What counts is where a minute stands, not which it is: PORT 1's first one is 40, at 45.
    yes(x.office(1, 40, 1440, 0));
    yes(x.offset(1, 5));
    yes(x.amount(0, 0, 50));
    is(x.sum(0, 2, LOW), 48);
    is(x.why(1, 42, LOW), 1);
    is(x.why(1, 43, LOW), -2);
    yes(x.office(1, 0, 1440, 0));
    yes(x.offset(1, 1000000));
    // A gap between the ports: ONCE lies behind it.
    yes(x.amount(0, 0, 1441));
    yes(x.term(1, 1, ALLOW, 0, 0, 0));
    is(x.sum(0, 2, LOW), 1000000);
    yes(x.amount(0, 0, 1440));
    is(x.sum(0, 2, LOW), 1439);
  }

  private static void told() {
    begin(23);
    no(x.told(0, 0), 2);
    no(x.told(0, 8), 1);
    x.contract();
    yes(x.port(0, 0, 2));
    int[] bare = {NONE, NONE, NONE, 0, 2, 0, 0, 0};
    for (int what = 0; what < 8; what++) is(x.told(0, what), bare[what]);
    no(x.told(0, 8), 1);
    no(x.told(0, -1), 1);
    no(x.told(8, 0), 1);
    yes(x.event(0, 300, NOTICE));
    is(x.told(0, 0), NONE);
    yes(x.event(0, 900, ARRIVED));
    is(x.told(0, 0), 900);
    yes(x.event(0, 100, ARRIVED));
    is(x.told(0, 0), 300);
    yes(x.event(0, 200, NOTICE));
    is(x.told(0, 0), 200);
    // END is the first ended at or behind BEGIN.
    yes(x.event(0, 199, ENDED));
    is(x.told(0, 2), 2880);
    yes(x.event(0, 1000, ENDED));
    is(x.told(0, 2), 1000);
    yes(x.event(0, 700, ENDED));
    is(x.told(0, 2), 700);
    yes(x.event(0, 200, ENDED));
    is(x.told(0, 2), 200);
    is(x.sum(0, 8, LOW), 1);
    is(x.sum(0, 6, LOW), 0);
    is(x.sum(0, 2, LOW), NONE);
    // BEGIN is told though it lies behind the LOG; the PORT does not COUNT then.
    yes(x.office(0, 0, 1440, 2679));
    is(x.told(0, 1), 2879);
    is(x.told(0, 2), 2880);
    is(x.sum(0, 8, LOW), 1);
    yes(x.office(0, 0, 1440, 2680));
    is(x.told(0, 0), 200);
    is(x.told(0, 1), 2880);
    is(x.told(0, 2), NONE);
    is(x.sum(0, 8, LOW), 0);
    is(x.told(0, 5), 8);
    is(x.told(0, 7), 0);
  }

  private static void allowed() {
    promise = 23;
    ship(1);
    term(0, ALLOW, 1, 0, 0);
    is(x.told(0, 3), 0);
    yes(x.amount(0, 0, 70));
    is(x.told(0, 3), 70);
    term(1, ALLOW, 0, 0, 0);
    yes(x.amount(0, 1, -7));
    is(x.told(0, 3), 70);
    yes(x.tons(0, 1000));
    is(x.told(0, 3), 70 + 8);
    term(2, ALLOW, 0, 0, 0);
    yes(x.amount(0, 2, -9));
    is(x.told(0, 3), 70 + 8 + 6);
    yes(x.tons(0, 1166));
    is(x.told(0, 3), 70 + 9 + 7);
    term(3, EXCEPT, 0, 0, 0);
    yes(x.amount(0, 3, 500));
    is(x.told(0, 3), 70 + 9 + 7);
    yes(x.tons(0, 100000000L));
    for (int place = 0; place < 60; place++) {
      x.term(0, place, ALLOW, 0, 0, 0);
      x.amount(0, place, -1);
    }
    is(x.told(0, 3), 360000000);
    is(x.sum(0, 1, LOW), 720000000L);
  }

  private static void weight() {
    begin(24);
    no(x.weight(0, 0), 2);
    no(x.weight(0, 2), 1);
    ship(1);
    yes(x.tons(0, 12345678));
    is(x.weight(0, 0), 12345);
    is(x.weight(0, 1), 678);
    no(x.weight(0, 2), 1);
    no(x.weight(0, -1), 1);
    no(x.weight(-1, 0), 1);
  }

  private static void state() {
    begin(25);
    no(x.state(0, 0), 2);
    no(x.state(0, 129600), 1);
    ship(2);
    open(1, 0, 1);
    yes(x.event(0, 2000, SHIFTED));
    yes(x.event(1, 5, RAIN));
    int[] kinds = {BEGAN, RAIN, STOPPED, SHIFTED, BERTHED, ENDED, ARRIVED, NOTICE};
    int[] states = {1, 2, 3, 4, 4, 4, 4, 4};
    for (int i = 0; i < 8; i++) yes(x.event(0, 10 * i + 10, kinds[i]));
    is(x.state(0, 9), 0);
    for (int i = 0; i < 8; i++) {
      is(x.state(0, 10 * i + 10), states[i]);
      is(x.state(0, 10 * i + 19), states[i]);
    }
    is(x.state(1, 4), 0);
    is(x.state(1, 5), 2);
    no(x.state(0, 2880), 1);
    no(x.state(0, -1), 1);
    no(x.state(8, 0), 1);
    no(x.state(2, 0), 2);
    is(x.tear(0, 1, 0), 1);
    no(x.state(0, 1440), 2);
    is(x.state(0, 1439), 4);
  }

  private static void minute() {
    begin(26);
    no(x.minute(0, 0, LOW), 2);
    no(x.minute(0, 129600, LOW), 1);
    no(x.minute(0, -1, LOW), 1);
    ship(1);
    is(x.minute(0, 0, LOW), 2);
    allow(0, 0, 1000);
    term(1, HALF, 4, 10, 20);
    term(2, EXCEPT, 4, 20, 30);
    term(3, UNLESS, 4, 30, 60);
    yes(x.event(0, 40, BEGAN));
    yes(x.event(0, 50, RAIN));
    int[] at = {0, 9, 10, 19, 20, 29, 30, 39, 40, 49, 50, 59, 60};
    int[] want = {2, 2, 1, 1, 0, 0, 0, 0, 2, 2, 0, 0, 2};
    for (int i = 0; i < at.length; i++) is(x.minute(0, at[i], i % 2 == 0), want[i]);
    no(x.minute(0, 1440, LOW), 1);
    yes(x.event(0, 500, ENDED));
    is(x.minute(0, 499, LOW), 2);
    is(x.minute(0, 500, LOW), NONE);
    is(x.tear(0, 0, 300), 1);
    is(x.minute(0, 299, LOW), 2);
    is(x.minute(0, 300, LOW), 3);
    is(x.minute(0, 300, HIGH), 3);
    yes(x.office(0, 0, 1440, 400));
    is(x.minute(0, 399, LOW), NONE);
    is(x.minute(0, 400, LOW), 3);
  }

  private static void why() {
    begin(27);
    no(x.why(0, 0, LOW), 2);
    no(x.why(0, 129600, LOW), 1);
    ship(1);
    is(x.why(0, 0, LOW), -2);
    allow(0, 59, 10);
    is(x.why(0, 9, LOW), 59);
    is(x.why(0, 10, LOW), -2);
    term(7, ALWAYS, 1, 12, 14);
    is(x.why(0, 9, LOW), 59);
    is(x.why(0, 11, LOW), -2);
    is(x.why(0, 12, LOW), 7);
    is(x.why(0, 14, LOW), -2);
    is(x.minute(0, 12, LOW), 2);
    yes(x.amount(0, 7, 1));
    is(x.minute(0, 12, LOW), 0);
    yes(x.amount(0, 7, 2));
    is(x.minute(0, 12, LOW), 0);
    yes(x.event(0, 13, BEGAN));
    is(x.minute(0, 12, LOW), 0);
    is(x.minute(0, 13, LOW), 2);
    yes(x.amount(0, 7, 3));
    is(x.minute(0, 12, LOW), 2);
    yes(x.amount(0, 7, -1));
    is(x.minute(0, 12, LOW), 2);
    // Of two that are OVER, both ALWAYS, the latest that does not yield.
    term(8, ALWAYS, 0, 0, 0);
    is(x.why(0, 12, LOW), 8);
    x.yields(0, 8, 1 << ALLOW | 1 << HALF);
    is(x.why(0, 12, LOW), 8);
    x.yields(0, 8, 1 << ALWAYS);
    is(x.why(0, 12, LOW), 7);
    is(x.why(0, 14, LOW), 8);
    no(x.why(0, 1440, LOW), 1);
    no(x.why(8, 0, LOW), 1);
    is(x.tear(0, 0, 5), 1);
    is(x.why(0, 5, LOW), -3);
    yes(x.office(0, 1, 1440, 0));
    is(x.why(0, 0, LOW), NONE);
    is(x.why(0, 1, LOW), 59);
  }

  private static void counts() {
    begin(28);
    no(x.counts(0, 0, 0, LOW), 2);
    no(x.counts(0, -1, 0, LOW), 1);
    ship(2);
    allow(0, 0, 5000);
    term(1, HALF, 1, 0, 60);
    is(x.counts(0, 0, 2880, LOW), 5760 - 120);
    is(x.counts(0, 30, 90, LOW), 30 + 60);
    is(x.counts(0, 59, 60, LOW), 1);
    is(x.counts(0, 60, 60, LOW), 0);
    is(x.counts(0, 90, 30, LOW), 0);
    is(x.counts(0, 0, Integer.MAX_VALUE, LOW), 5640);
    is(x.counts(0, Integer.MAX_VALUE, Integer.MAX_VALUE, LOW), 0);
    is(x.counts(0, Integer.MAX_VALUE, 0, LOW), 0);
    is(x.counts(0, 2879, 9999, LOW), 2);
    no(x.counts(0, -1, 0, LOW), 1);
    no(x.counts(0, 0, -1, LOW), 1);
    no(x.counts(8, 0, 0, LOW), 1);
    is(x.tear(0, 0, 1430), 0);
    is(x.counts(0, 1420, 1450, LOW), 20 + 0 + 10);
    is(x.counts(0, 1420, 1450, HIGH), 20 + 20 + 10);
    yes(x.event(0, 1429, ENDED));
    is(x.counts(0, 1420, 1450, HIGH), 18);
    yes(x.office(0, 0, 0, 0));
    is(x.counts(0, 0, 2880, HIGH), 0);
  }

  private static void by() {
    begin(29);
    no(x.by(0, 0, LOW), 2);
    no(x.by(0, 60, LOW), 1);
    ship(2);
    is(x.by(0, -2, LOW), 2880);
    allow(0, 0, 100);
    term(59, EXCEPT, 1, 0, 60);
    is(x.by(0, 59, LOW), 60);
    is(x.by(0, 0, LOW), 100);
    is(x.by(0, -2, LOW), 2720);
    is(x.by(0, -3, LOW), 0);
    is(x.by(0, 1, LOW), 0);
    no(x.by(0, -1, LOW), 1);
    no(x.by(0, -4, LOW), 1);
    no(x.by(0, 60, LOW), 1);
    no(x.by(8, 0, LOW), 1);
    is(x.tear(0, 0, 110), 0);
    is(x.by(0, -3, HIGH), 1330);
    is(x.by(0, 0, HIGH), 50);
    is(x.by(0, -2, HIGH), 1440);
    is(x.by(0, 59, HIGH), 60);
    is(x.by(0, 59, LOW), 120);
    is(x.by(0, 0, LOW), 100);
    yes(x.office(0, 0, 0, 0));
    is(x.by(0, -3, HIGH), 0);
  }

  private static void sum() {
    begin(30);
    no(x.sum(0, 0, LOW), 2);
    no(x.sum(0, 9, LOW), 1);
    ship(1);
    long[] bare = {2880, 0, -1, 2880, 0, 0, 1440, 0, 1};
    for (int what = 0; what < 9; what++) is(x.sum(0, what, LOW), bare[what]);
    no(x.sum(0, 9, LOW), 1);
    no(x.sum(0, -1, LOW), 1);
    no(x.sum(8, 0, LOW), 1);
    // With LIMIT 0 ONCE is one less than where the first minute stands.
    yes(x.office(0, 0, 1440, 40));
    yes(x.offset(0, 500));
    is(x.sum(0, 2, LOW), 539);
    yes(x.offset(0, 0));
    yes(x.office(0, 0, 1440, 0));
    // LIMIT odd to a HALF: the minute that comes to it or beyond.
    allow(0, 0, 3);
    is(x.sum(0, 2, LOW), 2);
    term(1, HALF, 4, 0, 1);
    is(x.sum(0, 2, LOW), 3);
    is(x.sum(0, 0, LOW), 2879);
    is(x.sum(0, 3, LOW), 2873);
    // SAVED wants an ended at END of each PORT that COUNTS.
    yes(x.amount(0, 0, 2000));
    is(x.sum(0, 3, LOW), 0);
    is(x.sum(0, 4, LOW), 0);
    yes(x.event(0, 1000, ENDED));
    is(x.sum(0, 0, LOW), 1999);
    is(x.sum(0, 4, LOW), 2001);
    is(x.sum(0, 2, LOW), NONE);
    yes(x.rate(0, 999, 5760));
    is(x.sum(0, 5, LOW), -4002);
    yes(x.rate(0, 999, 5761));
    is(x.sum(0, 5, LOW), -4002);
    open(1, 0, 1);
    yes(x.together(3));
    is(x.sum(1, 1, LOW), 8000);
    is(x.sum(1, 4, LOW), 0);
    yes(x.event(1, 0, ENDED));
    is(x.sum(1, 8, LOW), 2);
    is(x.sum(1, 6, LOW), 1000);
    is(x.sum(1, 4, LOW), 6001);
    // One that does not COUNT adds no LIMIT and wants no ended.
    yes(x.close(1));
    yes(x.port(1, 0, 1));
    yes(x.together(3));
    is(x.sum(1, 1, LOW), 4000);
    is(x.sum(1, 4, LOW), 2001);
    is(x.sum(1, 8, LOW), 1);
    // RATE and BACK of the least PORT, though it may be one that does not COUNT.
    yes(x.rate(1, 1, 1));
    is(x.sum(1, 5, LOW), -4002);
    // None COUNTS: nothing saved.
    yes(x.office(0, 0, 0, 0));
    is(x.sum(0, 4, LOW), 0);
    is(x.sum(0, 1, LOW), 0);
    is(x.sum(0, 2, LOW), NONE);
    is(x.sum(0, 8, LOW), 0);
  }

  private static void money() {
    promise = 30;
    ship(1);
    allow(0, 0, 1);
    yes(x.rate(0, 1, 0));
    is(x.sum(0, 3, LOW), 2878);
    is(x.sum(0, 5, LOW), 0);
    yes(x.rate(0, 2, 0));
    is(x.sum(0, 5, LOW), 1);
    // The greatest that can be saved fits: 8 PORTS, 60 ALLOWS of 6000000 minutes each.
    for (int place = 0; place < 60; place++) {
      x.term(0, place, ALLOW, 0, 0, 0);
      x.amount(0, place, -1);
    }
    for (int p = 0; p < 8; p++) {
      open(p, 0, 1);
      yes(x.tons(p, 100000000L));
      yes(x.event(p, 0, ENDED));
    }
    yes(x.rate(0, 1000000000L, 1000000000L));
    yes(x.together(255));
    is(x.sum(7, 4, LOW), 5760000000L);
    is(x.sum(7, 5, LOW), -2000000000000000L);
  }

  /** Behind LIMIT, ALWAYS alone decides; LOW and HIGH each by their own sums. */
  private static void gaps() {
    promise = 30;
    ship(3);
    allow(0, 0, 100);
    term(1, EXCEPT, 1, 0, 60);
    yes(x.day(0, 1, false));
    is(x.tear(0, 0, 120), 0);
    is(x.sum(0, 2, LOW), 2880 + 60 + 39);
    is(x.sum(0, 2, HIGH), 159);
    is(x.sum(0, 0, LOW), 120 + 2 * (1440 - 60));
    is(x.sum(0, 0, HIGH), 120 + 2 * 1320 + 2880 + 2880);
    is(x.sum(0, 6, HIGH), 4320);
    is(x.why(0, 2880, LOW), 1);
    is(x.why(0, 2880, HIGH), -2);
  }

  private static void asIf() {
    begin(31);
    no(x.as(0, 0, 0, LOW), 2);
    no(x.as(0, 60, 0, LOW), 1);
    no(x.as(0, 0, 60, LOW), 1);
    ship(1);
    allow(0, 0, 100);
    term(1, EXCEPT, 1, 0, 60);
    allow(0, 2, 30);
    x.yields(0, 2, 1 << EXCEPT);
    yes(x.heading(0, 3, 4));
    is(x.sum(0, 3, LOW), 2 * (1440 - 60 - 130));
    is(x.as(0, 1, NONE, LOW), 2 * (1440 - 130));
    is(x.as(0, 1, 3, LOW), 2 * (1440 - 130));
    is(x.as(0, 1, 59, LOW), 2 * (1440 - 130));
    is(x.as(0, 1, 1, LOW), 2 * (1440 - 60 - 130));
    is(x.as(0, 2, 2, LOW), 2 * (1440 - 60 - 130));
    is(x.as(0, 2, 0, LOW), 2 * (1440 - 200));
    is(x.as(0, 3, 1, LOW), 2 * (1440 - 60 - 130));
    is(x.as(0, 0, NONE, HIGH), 2 * (1440 - 60 - 30));
    is(x.as(0, 0, 2, HIGH), 2 * (1440 - 60 - 60));
    // Nothing changes.
    is(x.sum(0, 3, LOW), 2 * (1440 - 60 - 130));
    is(x.span(0, 2, 3), 1 << EXCEPT);
    is(x.span(0, 0, 4), 100);
    is(x.span(0, 1, 2), 60);
    is(x.headed(0, 3), 4);
    is(x.kind(0, 59), 6);
    no(x.as(0, 60, 0, LOW), 1);
    no(x.as(0, -1, 0, LOW), 1);
    no(x.as(0, 0, 60, LOW), 1);
    no(x.as(0, 0, -2, LOW), 1);
    no(x.as(8, 0, 0, LOW), 1);
    no(x.as(1, 0, 0, LOW), 2);
    // SAVED is below nothing; and the CONTRACT is the PORT's wherever the GROUP has it.
    yes(x.event(0, 10, ENDED));
    is(x.as(0, 1, NONE, LOW), 20 - 260);
    x.contract();
    allow(1, 0, 7);
    open(1, 0, 1);
    open(2, 1, 1);
    yes(x.event(1, 10, ENDED));
    yes(x.event(2, 10, ENDED));
    yes(x.together(7));
    is(x.as(1, 0, NONE, LOW), 20 - 60 - 60 - 14);
    is(x.as(2, 0, NONE, LOW), 20 - 260 - 260);
  }

  private static void claim() {
    begin(32);
    no(x.claim(0), 2);
    no(x.claim(8), 1);
    no(x.claim(-1), 1);
    ship(1);
    yes(x.claim(0));
    due(x.status(8), 0);
    due(x.check(0, LOW), 0);
    is(x.tell(1, 0), 1);
    no(x.claim(1), 2);
    due(x.status(8), 1);
    yes(x.claim(0));
    due(x.status(8), 0);
  }

  private static void tell() {
    begin(33);
    no(x.tell(1, 0), 2);
    no(x.tell(0, 0), 1);
    no(x.tell(1, -1), 1);
    ship(1);
    yes(x.claim(0));
    no(x.tell(0, 0), 1);
    no(x.tell(-1, 0), 1);
    no(x.tell(129601, 0), 1);
    no(x.tell(1, -1), 1);
    no(x.tell(1, -4), 1);
    no(x.tell(1, 60), 1);
    due(x.status(8), 0);
    int[] whys = {0, 59, -2, -3};
    for (int i = 0; i < 4; i++) is(x.tell(129600, whys[i]), i + 1);
    ship(1);
    yes(x.claim(0));
    for (int i = 1; i <= 485; i++) due(x.tell(1, -2), i);
    yes(x.image());
    for (int i = 486; i <= 500; i++) due(x.tell(2, -2), i);
    no(x.tell(1, -2), 5);
    no(x.tell(1, -1), 1);
    due(x.status(8), 500);
    due(x.check(0, LOW), 485 + 30);
  }

  private static void check() {
    begin(34);
    due(x.check(0, LOW), -4);
    due(x.status(0), 2);
    ship(2);
    due(x.check(0, LOW), -4);
    allow(0, 0, 100);
    term(1, EXCEPT, 1, 0, 60);
    is(x.tear(0, 1, 10), 0);
    yes(x.event(0, 30, BEGAN));
    yes(x.claim(0));
    is(x.check(0, LOW), 0);
    is(x.tell(50, 1), 1);
    is(x.check(0, LOW), 50);
    is(x.tell(10, 1), 2);
    is(x.tell(100, 0), 3);
    is(x.tell(1280, -2), 4);
    is(x.tell(9, -2), 5);
    is(x.check(0, LOW), 1449);
    is(x.tell(1, -2), 6);
    is(x.tell(1429, -3), 7);
    is(x.check(0, LOW), 2879);
    is(x.tell(1, -3), 8);
    int low = 200 + 2560 + 20;
    is(x.check(low, LOW), NONE);
    is(x.check(low + 1, LOW), -2);
    is(x.check(-1, LOW), -2);
    is(x.check(low, HIGH), -2);
    is(x.check(low + 2 * 1430, HIGH), NONE);
    // More are told than there are: END.
    is(x.tell(1, -2), 9);
    is(x.check(low, LOW), 2880);
    // An earlier mistake comes first.
    term(1, EXCEPT, 1, 0, 55);
    is(x.check(low, LOW), 55);
    term(1, EXCEPT, 1, 0, 60);
    yes(x.event(0, 1000, ENDED));
    is(x.check(0, LOW), 1000);
    // Its own minutes alone, by the sums of the GROUP.
    open(1, 0, 1);
    yes(x.together(3));
    yes(x.amount(0, 0, 0));
    yes(x.claim(1));
    is(x.tell(1440, -2), 1);
    is(x.check(2880, LOW), NONE);
    // A PORT that does not COUNT: END is 0.
    yes(x.office(1, 0, 0, 0));
    is(x.check(0, LOW), 0);
    yes(x.claim(1));
    is(x.check(0, LOW), NONE);
    is(x.check(1, LOW), -2);
    yes(x.close(1));
    due(x.check(0, LOW), -4);
    due(x.status(0), 2);
    open(1, 0, 1);
    is(x.check(0, LOW), 0);
    // END where BEGIN is: more are told than none.
    yes(x.office(1, 0, 1440, 20));
    yes(x.event(1, 20, ENDED));
    is(x.check(0, LOW), NONE);
    is(x.tell(1, 0), 1);
    is(x.check(0, LOW), 20);
  }

  private static void image() {
    begin(35);
    yes(x.image());
    x.contract();
    yes(x.back());
    due(x.status(6), 0);
    no(x.kind(0, 0), 2);
    ship(2);
    allow(0, 0, 10);
    yes(x.image());
    yes(x.amount(0, 0, 20));
    yes(x.image());
    yes(x.amount(0, 0, 30));
    yes(x.back());
    is(x.told(0, 3), 20);
  }

  private static void back() {
    begin(36);
    no(x.back(), 2);
    ship(3);
    allow(0, 0, 10);
    x.yields(0, 0, 3);
    yes(x.heading(0, 1, 44));
    open(1, 0, 1);
    yes(x.together(3));
    yes(x.tons(0, 5005));
    yes(x.office(0, 3, 1400, 5));
    yes(x.offset(0, 6));
    yes(x.rate(0, 2880, 8));
    yes(x.day(0, 1, false));
    is(x.tear(0, 2, 70), 0);
    is(x.free(0, 2, true), false);
    yes(x.event(0, 9, BEGAN));
    yes(x.claim(0));
    is(x.tell(4, 0), 1);
    long[] was = look();
    yes(x.image());
    for (int round = 0; round < 2; round++) {
      x.contract();
      yes(x.heading(0, 0, 1));
      term(1, EXCEPT, 0, 0, 0);
      yes(x.together(0));
      yes(x.day(0, 1, true));
      yes(x.event(0, 1440, RAIN));
      yes(x.event(1, 3, RAIN));
      yes(x.port(0, 0, 2));
      yes(x.claim(1));
      is(x.tell(9, -3), 1);
      is(x.tell(9, -3), 2);
      yes(x.close(1));
      no(x.told(9, 0), 1);
      due(x.status(1), round + 1);
      yes(x.back());
      // Not status(): what was refused stays so.
      due(x.status(1), round + 1);
      long[] now = look();
      for (int i = 0; i < was.length; i++) due(now[i], was[i]);
      due(x.state(0, 9), 1);
    }
  }
  private static long[] look() {
    long[] all = new long[40];
    for (int i = 0; i < 8; i++) all[i] = x.told(0, i);
    for (int i = 0; i < 9; i++) all[8 + i] = x.sum(1, i, HIGH);
    for (int i = 0; i < 5; i++) all[17 + i] = x.span(0, 0, i);
    all[22] = x.headed(0, 1);
    all[23] = x.weight(0, 0);
    all[24] = x.weight(0, 1);
    all[25] = x.check(0, LOW);
    for (int i = 6; i <= 8; i++) all[20 + i] = x.status(i);
    all[29] = x.state(0, 9);
    all[30] = x.why(0, 9, LOW);
    all[31] = x.told(1, 5);
    all[32] = x.as(0, 0, NONE, LOW);
    return all;
  }

  private static void status() {
    begin(37);
    due(x.status(-1), NONE);
    due(x.status(9), NONE);
    due(x.status(Integer.MIN_VALUE), NONE);
    due(x.status(Integer.MAX_VALUE), NONE);
    due(x.status(0), 0);
    x.kind(0, 0);
    due(x.status(0), 2);
    due(x.status(99), NONE);
    due(x.status(0), 2);
    due(x.status(2), 1);
    x.contract();
    due(x.status(0), 0);
    due(x.status(6), 1);
    x.kind(0, 60);
    x.kind(0, -1);
    due(x.status(0), 1);
    due(x.status(1), 2);
    term(0, ALLOW, 0, 0, 0);
    x.headed(0, 0);
    due(x.status(0), 3);
    due(x.status(3), 1);
    yes(x.port(0, 0, 2));
    x.copy(0, 1, 0, 0, 2);
    due(x.status(0), 4);
    due(x.status(4), 1);
    due(x.status(5), 0);
    for (int i = 1; i < 40; i++) x.contract();
    x.contract();
    due(x.status(0), 5);
    due(x.status(5), 1);
    due(x.status(6), 40);
    due(x.status(7), 0);
    yes(x.event(0, 0, 0));
    due(x.status(7), 1);
    due(x.status(8), 0);
    yes(x.claim(0));
    is(x.tell(1, 1), 1);
    due(x.status(8), 1);
    yes(x.close(0));
    due(x.status(7), 0);
  }

  public static void main(String[] args) {
    newObject();
    contract();
    term();
    yields();
    yielding();
    amount();
    heading();
    strike();
    kind();
    headed();
    span();
    spans();
    port();
    close();
    event();
    fullOfEvents();
    day();
    tear();
    copy();
    copyOfItself();
    copyWhenFull();
    free();
    tons();
    office();
    offset();
    rate();
    together();
    oneSum();
    told();
    allowed();
    weight();
    state();
    minute();
    why();
    counts();
    by();
    sum();
    money();
    gaps();
    asIf();
    claim();
    tell();
    check();
    image();
    back();
    status();
    System.out.println(wrong == 0 ? "all promises hold" : wrong + " answers are not as due");
    if (wrong != 0) System.exit(1);
  }
}
