/** The document's section 'Terms' up to what one PORT has: each sentence that names a boundary case, at its boundaries. */
public final class TermsTest extends Checks {

  // ---- CONTRACTS and PLACES

  private static void contracts() {
    says("CONTRACTS are made in order, 0 .. 39");
    for (int c = 0; c < 40; c++) {
      no(x.kind(c, 0), 2);
      is(x.contract(), c);
      is(x.kind(c, 0), 6);
    }
    is(x.kind(39, 59), 6);
    no(x.kind(40, 0), 1);
    no(x.kind(-1, 0), 1);
  }

  private static void places() {
    says("each of 60 PLACES, 0 .. 59");
    x.contract();
    x.contract();
    for (int place = 0; place < 60; place++) {
      yes(x.heading(0, place, place));
      yes(x.heading(1, place, 100 + place));
    }
    for (int place = 0; place < 60; place++) {
      due(x.headed(0, place), place);
      due(x.headed(1, place), 100 + place);
    }
    no(x.heading(0, 60, 7), 1);
    no(x.heading(1, -1, 7), 1);
    is(x.headed(1, 0), 100);
    is(x.headed(0, 59), 59);
  }

  private static void things() {
    says("A PLACE holds nothing, a HEADING (an int), or a TERM: its KIND, its SPAN, YIELDS (5 bits, one for each KIND), AMOUNT.");
    x.contract();
    is(x.kind(0, 0), 6);
    for (int v : new int[] {LEAST_INT, -1, 0, 1, MOST_INT}) {
      yes(x.heading(0, 0, v));
      is(x.kind(0, 0), 5);
      is(x.headed(0, 0), v);
    }
    term(0, HALF, HOURS, 3, 4);
    is(x.yields(0, 0, 31), 0);
    yes(x.amount(0, 0, -6));
    int[] holds = {HOURS, 3, 4, 31, -6};
    for (int what = 0; what < 5; what++) is(x.span(0, 0, what), holds[what]);
    is(x.kind(0, 0), HALF);
    yes(x.strike(0, 0));
    is(x.kind(0, 0), 6);
  }

  // ---- KINDS

  private static void allowAmounts() {
    says("0 ALLOW: counts (AMOUNT above 0: so many minutes are allowed; below 0: its tons an hour, without the sign; 0: none)");
    ship(1);
    yes(x.tons(0, 60000));
    term(0, ALLOW, ALL, 0, 0);
    int[] amounts = {0, 1, -1, 2, -2, 60, -60, -61, -3600, -3601, 1000000, -1000000};
    int[] allowed = {0, 1, 3600, 2, 1800, 60, 60, 59, 1, 0, 1000000, 0};
    for (int i = 0; i < amounts.length; i++) {
      yes(x.amount(0, 0, amounts[i]));
      is(x.told(0, ALLOWED), allowed[i]);
      is(x.sum(0, LIMIT, LOW), 2L * allowed[i]);
      is(x.why(0, 0, LOW), allowed[i] > 0 ? 0 : NEITHER);
      is(x.minute(0, 0, LOW), 2);
    }
  }

  /** A desk whose PORT 0 has STATE 0 in minutes 0 .. 9, 1 in 10 .. 19, and so on up to 4. */
  private static void states() {
    ship(1);
    for (int state = 1; state <= 4; state++) yes(x.event(0, 10 * state, BEGAN - 1 + state));
  }

  /** EVENTS that change no STATE, its own and another PORT's, and one that does in the minute behind BEGIN. */
  private static void otherEvents() {
    says("2 UNLESS: the STATE by EVENTS of KINDS 3 to 6 of the PORT");
    ship(1);
    allowAside(1000);
    term(0, UNLESS, ALL, 0, 0);
    yes(x.port(1, 0, 1));
    for (int kind : new int[] {BEGAN, ARRIVED, NOTICE}) yes(x.event(1, 0, kind));
    is(x.sum(0, HALVES, LOW), 0);
    is(x.sum(1, HALVES, LOW), 2880);
    yes(x.event(0, 1, BEGAN));
    is(x.sum(0, HALVES, LOW), 2878);
    is(x.counts(0, 0, 2, LOW), 2);
    for (int kind : new int[] {ARRIVED, NOTICE, BERTHED}) yes(x.event(0, 20 + kind, kind));
    is(x.sum(0, HALVES, LOW), 2878);
    yes(x.event(0, 40, STOPPED));
    is(x.sum(0, HALVES, LOW), 78);
    for (int kind : new int[] {ARRIVED, NOTICE, BERTHED}) yes(x.event(0, 50 + kind, kind));
    is(x.sum(0, HALVES, LOW), 78);
    yes(x.event(0, 1439, BEGAN));
    is(x.sum(0, HALVES, LOW), 80);
  }

  /** What a TERM of this KIND and AMOUNT adds in the STATES 0 to 4. */
  private static void adds(int kind, int amount, int... want) {
    term(0, kind, ALL, 0, 0);
    yes(x.amount(0, 0, amount));
    for (int state = 0; state <= 4; state++) {
      is(x.minute(0, 10 * state, LOW), want[state]);
      is(x.minute(0, 10 * state + 9, LOW), want[state]);
      is(x.why(0, 10 * state, LOW), 0);
    }
  }

  private static void kindsThatCount() {
    says("0 ALLOW: counts");
    states();
    allowAside(1000);
    adds(ALLOW, 0, 2, 2, 2, 2, 2);
    says("1 EXCEPT: does not count");
    states();
    allowAside(1000);
    adds(EXCEPT, 0, 0, 0, 0, 0, 0);
    says("2 UNLESS: does not, but counts if the STATE is 1 then");
    states();
    allowAside(1000);
    adds(UNLESS, 0, 0, 2, 0, 0, 0);
    says("4 HALF: counts half");
    states();
    allowAside(1000);
    adds(HALF, 0, 1, 1, 1, 1, 1);
  }

  private static void always() {
    says("3 ALWAYS: AMOUNT 1: does not");
    states();
    adds(ALWAYS, 1, 0, 0, 0, 0, 0);
    says("3 ALWAYS: AMOUNT 2: like UNLESS");
    states();
    adds(ALWAYS, 2, 0, 2, 0, 0, 0);
    says("3 ALWAYS: else: counts");
    states();
    for (int amount : new int[] {0, 3, -1, -2, 1000000, -1000000}) adds(ALWAYS, amount, 2, 2, 2, 2, 2);
  }

  private static void otherAmounts() {
    says("AMOUNTS of the others mean nothing");
    for (int amount : new int[] {1, 2, -3, 1000000}) {
      states();
      yes(x.tons(0, 60000));
      allowAside(1000);
      adds(EXCEPT, amount, 0, 0, 0, 0, 0);
      adds(UNLESS, amount, 0, 2, 0, 0, 0);
      adds(HALF, amount, 1, 1, 1, 1, 1);
      is(x.told(0, ALLOWED), 1000);
      term(0, ALWAYS, ALL, 0, 0);
      yes(x.amount(0, 0, amount));
      is(x.told(0, ALLOWED), 1000);
    }
  }

  // ---- SPANS

  /** The TERM at PLACE 0 tells the minutes from .. to - 1 of each pair, and no others of a LOG of two DAYS. */
  private static void has(int sort, int a, int b, int... pairs) {
    term(0, EXCEPT, sort, a, b);
    int many = 0;
    for (int i = 0; i < pairs.length; i += 2) {
      int from = pairs[i], to = pairs[i + 1];
      many += to - from;
      is(x.why(0, from, LOW), 0);
      is(x.why(0, to - 1, LOW), 0);
      if (from > 0) is(x.why(0, from - 1, LOW), NEITHER);
      if (to < 2880) is(x.why(0, to, LOW), NEITHER);
    }
    is(x.by(0, 0, LOW), many);
    is(x.by(0, NEITHER, LOW), 2880 - many);
  }

  private static void twoDays() {
    ship(2);
    allowAside(5000);
  }

  private static void allMinutes() {
    says("0 all minutes.");
    twoDays();
    has(ALL, 0, 0, 0, 2880);
    has(ALL, LEAST_INT, MOST_INT, 0, 2880);
  }

  private static void hours() {
    says("1 those at a .. b - 1 of their day (a, b: 0 .. 1440)");
    twoDays();
    has(HOURS, 480, 1080, 480, 1080, 1920, 2520);
    has(HOURS, 0, 1440, 0, 2880);
    has(HOURS, 0, 1, 0, 1, 1440, 1441);
    has(HOURS, 0, 1439, 0, 1439, 1440, 2879);
    has(HOURS, 1, 1440, 1, 1440, 1441, 2880);
    has(HOURS, 1439, 1440, 1439, 1440, 2879, 2880);
    has(HOURS, 0, 0);
    has(HOURS, 720, 720);
    has(HOURS, 1440, 1440);
    says("with a above b those at a and later, and those ahead of b");
    twoDays();
    has(HOURS, 1080, 480, 0, 480, 1080, 1920, 2520, 2880);
    has(HOURS, 721, 720, 0, 720, 721, 2160, 2161, 2880);
    has(HOURS, 1440, 0);
    has(HOURS, 1440, 1, 0, 1, 1440, 1441);
    has(HOURS, 1439, 0, 1439, 1440, 2879, 2880);
    has(HOURS, 1439, 1438, 0, 1438, 1439, 2878, 2879, 2880);
    has(HOURS, 1440, 1439, 0, 1439, 1440, 2879);
    has(HOURS, 1, 0, 1, 1440, 1441, 2880);
  }

  private static void freeDays() {
    says("2 those of the port's FREE days.");
    twoDays();
    has(FREE, 0, 0);
    is(x.free(0, 1, true), false);
    has(FREE, 7, -7, 1440, 2880);
    yes(x.office(0, 0, 1440, 0));
    is(x.free(0, 1, false), true);
    has(FREE, 0, 0);
    open(1, 0, 2);
    is(x.free(1, 1, true), false);
    is(x.by(0, 0, LOW), 0);
    is(x.by(1, 0, LOW), 1440);
  }

  private static void stated() {
    says("3 those whose STATE is a.");
    twoDays();
    has(STATED, 0, 0, 0, 2880);
    for (int a = 1; a <= 4; a++) has(STATED, a, 0);
    yes(x.event(0, 10, BEGAN));
    yes(x.event(0, 20, RAIN));
    yes(x.event(0, 1440, STOPPED));
    yes(x.event(0, 2879, SHIFTED));
    has(STATED, 0, 9, 0, 10);
    has(STATED, 1, 9, 10, 20);
    has(STATED, 2, 9, 20, 1440);
    has(STATED, 3, 9, 1440, 2879);
    has(STATED, 4, 9, 2879, 2880);
  }

  private static void logMinutes() {
    says("4 the minutes a .. b - 1 of the LOG.");
    twoDays();
    has(MINUTES, 0, 0);
    has(MINUTES, 0, 1, 0, 1);
    has(MINUTES, 1439, 1441, 1439, 1441);
    has(MINUTES, 0, 2880, 0, 2880);
    has(MINUTES, 0, 129600, 0, 2880);
    has(MINUTES, 2879, 129600, 2879, 2880);
    has(MINUTES, 2880, 129600);
    has(MINUTES, 129600, 129600);
    has(MINUTES, 700, 700);
    has(MINUTES, 2000, 100);
    // Of the LOG, not of where they stand.
    yes(x.offset(0, 300));
    has(MINUTES, 700, 800, 700, 800);
    has(HOURS, 700, 800, 700, 800, 2140, 2240);
  }

  // ---- PORTS and LOGS

  private static void ports() {
    says("PORTS 0 .. 7.");
    x.contract();
    for (int p = 0; p < 8; p++) {
      no(x.told(p, DAYS), 2);
      yes(x.port(p, 0, p + 1));
    }
    for (int p = 0; p < 8; p++) is(x.told(p, DAYS), p + 1);
    no(x.port(8, 0, 1), 1);
    no(x.port(-1, 0, 1), 1);
    no(x.told(8, DAYS), 1);
  }

  private static void contractOfPort() {
    says("A PORT that is open has a CONTRACT");
    ship(1);
    for (int c = 1; c < 3; c++) {
      x.contract();
      for (int place = 0; place < 60; place += 59) yes(x.term(c, place, EXCEPT, MINUTES, 10 * c, 10 * c + 5));
      open(c, c, 1);
    }
    for (int c = 0; c < 3; c++) {
      yes(x.term(c, 1, ALLOW, MINUTES, 0, 0));
      yes(x.amount(c, 1, 100 + c));
    }
    for (int c = 0; c < 3; c++) {
      is(x.told(c, CONTRACT), c);
      is(x.told(c, ALLOWED), 100 + c);
      is(x.by(c, NEITHER, LOW), c == 0 ? 1440 : 1435);
      is(x.by(c, 59, LOW), c == 0 ? 0 : 5);
      is(x.why(c, 10, LOW), c == 1 ? 59 : NEITHER);
      is(x.why(c, 20, LOW), c == 2 ? 59 : NEITHER);
    }
  }

  private static void logs() {
    says("a LOG of 1 .. 90 DAYS");
    ship(1);
    yes(x.event(0, 1439, BERTHED));
    no(x.event(0, 1440, BERTHED), 1);
    open(1, 0, 90);
    yes(x.event(1, 129599, BERTHED));
    no(x.event(1, 129600, BERTHED), 1);
    yes(x.day(1, 89, false));
    no(x.day(1, 90, false), 1);
    is(x.told(1, END), 129600);
  }

  private static void minutesOfDays() {
    says("Minute m of a LOG is of day m / 1440, at m % 1440 of it.");
    ship(3);
    yes(x.event(0, 1439, RAIN));
    yes(x.event(0, 1440, BEGAN));
    yes(x.event(0, 2879, STOPPED));
    yes(x.day(0, 1, false));
    is(x.told(0, EVENTS), 3);
    is(x.state(0, 1439), 2);
    no(x.state(0, 1440), 2);
    no(x.state(0, 2879), 2);
    is(x.state(0, 2880), 2);
  }

  private static void tornDays() {
    says("TORN (from a minute t of it on, 0 .. 1439)");
    ship(3);
    is(x.tear(0, 1, 1439), 0);
    is(x.told(0, UNKNOWN), 1);
    is(x.state(0, 2878), 0);
    no(x.state(0, 2879), 2);
    is(x.tear(0, 1, 0), 0);
    is(x.told(0, UNKNOWN), 1440);
    is(x.state(0, 1439), 0);
    no(x.state(0, 1440), 2);
    is(x.state(0, 2880), 0);
    // A DAY TORN from its first minute on is there.
    is(x.tear(0, 1, 0), 0);
    is(x.free(0, 1, true), false);
  }

  private static void unknownMinutes() {
    says("Minutes of a missing day, and those from t on, are UNKNOWN.");
    ship(3);
    yes(x.day(0, 1, false));
    is(x.tear(0, 2, 600), 0);
    is(x.told(0, UNKNOWN), 1440 + 840);
    int[] at = {1439, 1440, 2879, 2880, 3479, 3480, 4319};
    boolean[] unknown = {false, true, true, false, false, true, true};
    for (int i = 0; i < at.length; i++) {
      is(x.why(0, at[i], LOW), unknown[i] ? GAP : NEITHER);
      is(x.minute(0, at[i], HIGH), unknown[i] ? 3 : 2);
    }
  }

  private static void eventsLie() {
    says("EVENTS lie in DAYS, at known minutes, those of one minute in the order in which they came");
    ship(1);
    yes(x.event(0, 50, BEGAN));
    yes(x.event(0, 50, SHIFTED));
    yes(x.event(0, 50, RAIN));
    yes(x.event(0, 49, STOPPED));
    is(x.state(0, 49), 3);
    is(x.state(0, 50), 2);
    yes(x.event(0, 50, BEGAN));
    yes(x.event(0, 51, STOPPED));
    is(x.state(0, 50), 1);
    is(x.tear(0, 0, 50), 5);
    no(x.event(0, 50, BEGAN), 2);
    yes(x.event(0, 49, BEGAN));
    is(x.state(0, 49), 1);
  }

  private static void eventsOfNeighbours() {
    says("A PORT that is open has a LOG of 1 .. 90 DAYS: its last minute beside the first of the next PORT's");
    x.contract();
    for (int p = 0; p < 3; p++) yes(x.port(p, 0, 90));
    for (int kind : new int[] {ARRIVED, NOTICE, BEGAN, ENDED}) yes(x.event(0, 129599, kind));
    for (int kind : new int[] {ARRIVED, NOTICE, RAIN, ENDED}) yes(x.event(2, 0, kind));
    is(x.state(1, 0), 0);
    is(x.state(1, 129599), 0);
    is(x.told(1, EVENTS), 0);
    is(x.told(1, GOOD), NONE);
    is(x.told(0, EVENTS), 4);
    is(x.told(0, GOOD), 129599);
    is(x.told(0, END), 129599);
    is(x.told(2, EVENTS), 4);
    is(x.told(2, END), 0);
    is(x.state(2, 0), 2);
    yes(x.event(1, 0, ARRIVED));
    yes(x.event(1, 129599, NOTICE));
    is(x.told(1, GOOD), 129599);
    is(x.told(1, END), 129600);
    yes(x.event(1, 0, NOTICE));
    is(x.told(1, GOOD), 0);
    is(x.tear(1, 0, 0), 2);
    is(x.tear(1, 89, 0), 1);
    yes(x.day(1, 0, true));
    yes(x.day(1, 89, true));
    is(x.copy(1, 0, 1, 89, 1), 1);
    is(x.copy(1, 89, 1, 0, 1), 1);
    is(x.told(0, EVENTS), 4);
    is(x.told(2, EVENTS), 4);
    yes(x.close(1));
    due(x.status(7), 8);
    is(x.state(0, 129599), 1);
    is(x.state(2, 0), 2);
  }

  private static void mostEvents() {
    says("at most 5000 of all PORTS");
    full();
    no(x.event(0, 0, BEGAN), 5);
    no(x.event(1, 14400, BEGAN), 5);
    is(x.tear(1, 0, 980), 1);
    due(x.status(7), 4999);
    yes(x.event(0, 0, BEGAN));
    due(x.status(7), 5000);
    no(x.event(1, 14400, BEGAN), 5);
    is(x.told(0, EVENTS), 4501);
    is(x.told(1, EVENTS), 499);
  }

  private static void eventKinds() {
    says("KINDS of EVENTS: 0 arrived, 1 notice, 2 berthed, 3 began, 4 rain, 5 stopped, 6 shifted, 7 ended.");
    ship(1);
    for (int kind = 0; kind < 8; kind++) yes(x.event(0, 0, kind));
    no(x.event(0, 0, 8), 1);
    no(x.event(0, 0, -1), 1);
    is(x.told(0, EVENTS), 10);
    is(x.told(0, END), 0);
  }

  // ---- the STATE, GOOD, BEGIN, END, ALLOWED

  private static void state() {
    says("The STATE of a minute m: 1 if the latest EVENT of KINDS 3 to 6 at m or ahead of it is a 3, 2 if a 4, 3 if a 5, 4 if a 6");
    ship(3);
    int[] kinds = {BEGAN, RAIN, STOPPED, SHIFTED};
    for (int i = 0; i < 4; i++) {
      yes(x.event(0, 100 * i + 100, kinds[i]));
      is(x.state(0, 100 * i + 99), i);
      is(x.state(0, 100 * i + 100), i + 1);
      for (int none : new int[] {ARRIVED, NOTICE, BERTHED, ENDED}) yes(x.event(0, 100 * i + 150, none));
      is(x.state(0, 100 * i + 199), i + 1);
    }
    // Of the latest, not of the one that came last; also over a DAY that is missing.
    yes(x.event(0, 99, BEGAN));
    is(x.state(0, 99), 1);
    is(x.state(0, 400), 4);
    yes(x.day(0, 1, false));
    is(x.state(0, 4319), 4);
    yes(x.event(0, 4319, RAIN));
    is(x.state(0, 4319), 2);
    is(x.state(0, 4318), 4);
    // EVENTS of others are none of its own.
    open(1, 0, 1);
    is(x.state(1, 0), 0);
    open(2, 0, 1);
    yes(x.event(2, 0, BEGAN));
    is(x.state(1, 1439), 0);
    is(x.state(2, 0), 1);
    says("0 without one.");
    ship(1);
    is(x.state(0, 0), 0);
    is(x.state(0, 1439), 0);
    for (int none : new int[] {ARRIVED, NOTICE, BERTHED, ENDED}) yes(x.event(0, 0, none));
    is(x.state(0, 0), 0);
    is(x.state(0, 1439), 0);
    yes(x.event(0, 1439, BEGAN));
    is(x.state(0, 1438), 0);
    is(x.state(0, 1439), 1);
  }

  private static void bare(int days) {
    fresh();
    x.contract();
    yes(x.port(0, 0, days));
  }

  private static void goodNotice() {
    says("at or behind the first notice, and at or behind the first arrived.");
    bare(2);
    is(x.told(0, GOOD), NONE);
    yes(x.event(0, 300, NOTICE));
    is(x.told(0, GOOD), NONE);
    yes(x.event(0, 900, ARRIVED));
    is(x.told(0, GOOD), 900);
    yes(x.event(0, 300, ARRIVED));
    is(x.told(0, GOOD), 300);
    yes(x.event(0, 299, ARRIVED));
    is(x.told(0, GOOD), 300);
    yes(x.event(0, 298, NOTICE));
    is(x.told(0, GOOD), 299);
    yes(x.event(0, 2879, NOTICE));
    is(x.told(0, GOOD), 299);
    bare(1);
    yes(x.event(0, 0, ARRIVED));
    is(x.told(0, GOOD), NONE);
    yes(x.event(0, 1439, NOTICE));
    is(x.told(0, GOOD), 1439);
    is(x.sum(0, COUNTING, LOW), 1);
  }

  private static void goodKnown() {
    says("GOOD is the least minute of the LOG that is known, of no FREE day");
    ship(4);
    yes(x.event(0, 4319, ARRIVED));
    yes(x.event(0, 4319, NOTICE));
    is(x.told(0, GOOD), 0);
    yes(x.event(0, 1440, ARRIVED));
    yes(x.event(0, 1440, NOTICE));
    is(x.tear(0, 0, 0), 2);
    is(x.told(0, GOOD), 1440);
    is(x.tear(0, 1, 1), 0);
    is(x.told(0, GOOD), 1440);
    is(x.free(0, 1, true), false);
    is(x.told(0, GOOD), 2880);
    is(x.free(0, 2, true), false);
    is(x.told(0, GOOD), 4320);
    yes(x.day(0, 3, false));
    is(x.told(0, GOOD), NONE);
    is(x.free(0, 2, false), true);
    is(x.told(0, GOOD), 2880);
    // TORN just where the OFFICE opens: its minutes are UNKNOWN.
    yes(x.office(0, 600, 700, 0));
    is(x.tear(0, 2, 601), 2);
    is(x.told(0, GOOD), 2880 + 600);
    is(x.tear(0, 2, 600), 0);
    is(x.told(0, GOOD), NONE);
  }

  private static void goodOffice() {
    says("in OFFICE hours (at from .. to - 1 of its day)");
    for (int notice : new int[] {0, 539, 540, 541, 1018, 1019}) {
      bare(2);
      yes(x.event(0, 0, ARRIVED));
      yes(x.event(0, notice, NOTICE));
      yes(x.office(0, 540, 1020, 0));
      is(x.told(0, GOOD), Math.max(540, notice));
    }
    for (int notice : new int[] {1020, 1439, 1440, 1440 + 540}) {
      bare(2);
      yes(x.event(0, 0, ARRIVED));
      yes(x.event(0, notice, NOTICE));
      yes(x.office(0, 540, 1020, 0));
      is(x.told(0, GOOD), 1980);
    }
    ship(2);
    int[] from = {0, 0, 1439, 1440, 0, 1440, 600, 1020, 1};
    int[] to = {1440, 1, 1440, 1440, 0, 0, 600, 540, 0};
    int[] good = {0, 0, 1439, NONE, NONE, NONE, NONE, NONE, NONE};
    for (int i = 0; i < from.length; i++) {
      yes(x.office(0, from[i], to[i], 0));
      is(x.told(0, GOOD), good[i]);
    }
    bare(2);
    yes(x.event(0, 0, ARRIVED));
    yes(x.event(0, 1440 + 1020, NOTICE));
    yes(x.office(0, 540, 1020, 0));
    is(x.told(0, GOOD), NONE);
  }

  private static void begin() {
    says("BEGIN is GOOD and the GRACE.");
    ship(2);
    yes(x.office(0, 540, 1020, 0));
    is(x.told(0, BEGIN), 540);
    yes(x.office(0, 540, 1020, 1));
    is(x.told(0, BEGIN), 541);
    is(x.minute(0, 540, LOW), NONE);
    is(x.minute(0, 541, LOW), 2);
    // BEGIN may lie outside OFFICE hours, in what is FREE or UNKNOWN.
    yes(x.office(0, 540, 1020, 1000));
    is(x.told(0, BEGIN), 1540);
    is(x.free(0, 1, true), false);
    is(x.tear(0, 1, 0), 0);
    is(x.told(0, BEGIN), 1540);
    is(x.minute(0, 1540, LOW), 3);
    open(1, 0, 90);
    yes(x.office(1, 0, 1440, 100000));
    is(x.told(1, BEGIN), 100000);
  }

  private static void end() {
    says("END is the minute of the first ended at or behind BEGIN, else the LOG's length.");
    ship(2);
    yes(x.office(0, 200, 1440, 100));
    is(x.told(0, END), 2880);
    yes(x.event(0, 299, ENDED));
    is(x.told(0, END), 2880);
    is(x.minute(0, 2879, LOW), 2);
    yes(x.event(0, 2879, ENDED));
    is(x.told(0, END), 2879);
    is(x.minute(0, 2879, LOW), NONE);
    is(x.minute(0, 2878, LOW), 2);
    yes(x.event(0, 301, ENDED));
    is(x.told(0, END), 301);
    is(x.sum(0, MANY, LOW), 1);
    yes(x.event(0, 300, ENDED));
    is(x.told(0, END), 300);
    is(x.tear(0, 0, 300), 2);
    is(x.told(0, END), 2879);
  }

  private static void portCounts() {
    says("The PORT COUNTS if there is a GOOD, and BEGIN is ahead of the LOG's length");
    ship(1);
    allowAside(5);
    int[] grace = {0, 1438, 1439, 1440, 1441, 100000};
    for (int i = 0; i < grace.length; i++) {
      boolean counts = grace[i] < 1440;
      yes(x.office(0, 0, 1440, grace[i]));
      is(x.told(0, BEGIN), grace[i]);
      is(x.told(0, END), counts ? 1440 : NONE);
      is(x.sum(0, COUNTING, LOW), counts ? 1 : 0);
      is(x.sum(0, MANY, LOW), counts ? 1440 - grace[i] : 0);
      is(x.sum(0, LIMIT, LOW), counts ? 10 : 0);
    }
    yes(x.office(0, 0, 0, 0));
    is(x.told(0, END), NONE);
    is(x.sum(0, COUNTING, LOW), 0);
    says("also if END is BEGIN: no minute then");
    ship(1);
    allowAside(5);
    yes(x.event(0, 0, ENDED));
    is(x.told(0, BEGIN), 0);
    is(x.told(0, END), 0);
    is(x.sum(0, COUNTING, LOW), 1);
    is(x.sum(0, MANY, LOW), 0);
    is(x.sum(0, LIMIT, LOW), 10);
    is(x.sum(0, SAVED, LOW), 10);
    is(x.minute(0, 0, LOW), NONE);
    yes(x.office(0, 0, 1440, 1439));
    yes(x.event(0, 1439, ENDED));
    is(x.told(0, END), 1439);
    is(x.sum(0, COUNTING, LOW), 1);
    is(x.sum(0, MANY, LOW), 0);
  }

  private static void itsMinutes() {
    says("its minutes are BEGIN .. END - 1.");
    ship(2);
    yes(x.office(0, 100, 1440, 50));
    yes(x.event(0, 2000, ENDED));
    int[] at = {0, 149, 150, 1999, 2000, 2879};
    boolean[] own = {false, false, true, true, false, false};
    for (int i = 0; i < at.length; i++) {
      is(x.minute(0, at[i], LOW), own[i] ? 2 : NONE);
      is(x.why(0, at[i], LOW), own[i] ? NEITHER : NONE);
      is(x.counts(0, at[i], at[i] + 1, LOW), own[i] ? 2 : 0);
    }
    is(x.by(0, NEITHER, LOW), 1850);
    is(x.sum(0, MANY, LOW), 1850);
  }

  private static void allowed() {
    says("ALLOWED of a PORT: the sum, over the ALLOWs of its CONTRACT, of AMOUNT, or of TONS * 60 / (1000 * tons an hour)");
    ship(1);
    is(x.told(0, ALLOWED), 0);
    allow(0, 0, 70);
    allow(0, 59, 7);
    is(x.told(0, ALLOWED), 77);
    // Of ALLOWs alone, whatever their SPAN; of its own CONTRACT alone.
    term(1, EXCEPT, ALL, 0, 0);
    yes(x.amount(0, 1, 500));
    term(2, ALWAYS, ALL, 0, 0);
    yes(x.amount(0, 2, 500));
    yes(x.heading(0, 3, 500));
    term(4, ALLOW, STATED, 4, 0);
    yes(x.amount(0, 4, 100));
    is(x.told(0, ALLOWED), 177);
    x.contract();
    allow(1, 0, 1000);
    is(x.told(0, ALLOWED), 177);
    yes(x.tons(0, 7000));
    allow(0, 0, -70);
    is(x.told(0, ALLOWED), 107 + 6);
    // The greatest: 60 ALLOWs of 6000000 minutes each.
    yes(x.tons(0, 100000000L));
    for (int place = 0; place < 60; place++) {
      x.term(0, place, ALLOW, 0, 0, 0);
      x.amount(0, place, -1);
    }
    is(x.told(0, ALLOWED), 360000000);
    is(x.sum(0, LIMIT, LOW), 720000000L);
    says("each cut to whole minutes.");
    ship(1);
    allow(0, 0, -7);
    allow(0, 1, -7);
    int[] tons = {0, 1, 116, 117, 233, 234, 349, 350};
    int[] minutes = {0, 0, 0, 1, 1, 2, 2, 3};
    for (int i = 0; i < tons.length; i++) {
      yes(x.tons(0, tons[i]));
      is(x.told(0, ALLOWED), 2 * minutes[i]);
      is(x.sum(0, LIMIT, LOW), 4 * minutes[i]);
    }
  }

  public static void main(String[] args) {
    contracts();
    places();
    things();
    allowAmounts();
    kindsThatCount();
    otherEvents();
    always();
    otherAmounts();
    allMinutes();
    hours();
    freeDays();
    stated();
    logMinutes();
    ports();
    contractOfPort();
    logs();
    minutesOfDays();
    tornDays();
    unknownMinutes();
    eventsLie();
    eventsOfNeighbours();
    mostEvents();
    eventKinds();
    state();
    goodNotice();
    goodKnown();
    goodOffice();
    begin();
    end();
    portCounts();
    itsMinutes();
    allowed();
    finish();
  }
}
