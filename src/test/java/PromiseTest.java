/** Promises 1 to 37: each of their sentences, at the boundaries that it names; what REFUSALS say of all is in RefusalsTest. */
public final class PromiseTest extends Checks {

  private static void newObject() {
    says("1: No CONTRACT, no open PORT, no image, no claim.");
    due(LaytimeDesk.NONE, -1);
    for (int what = 0; what <= 8; what++) due(x.status(what), 0);
    for (int c = 0; c < 40; c++) no(x.kind(c, 0), 2);
    for (int p = 0; p < 8; p++) no(x.told(p, DAYS), 2);
    for (int p = 0; p < 8; p++) no(x.together(1 << p), 2);
    no(x.back(), 2);
    no(x.tell(1, 0), 2);
    due(x.check(0, LOW), -4);
    due(x.status(0), 2);
  }

  // ---- 2 to 10: CONTRACTS

  private static void contract() {
    says("2: A CONTRACT more, empty: its number");
    for (int c = 0; c < 3; c++) {
      is(x.contract(), c);
      due(x.status(6), c + 1);
      for (int place = 0; place < 60; place++) due(x.kind(c, place), 6);
    }
    says("2: refused (5) if there are 40.");
    for (int c = 0; c < 39; c++) is(x.contract(), c);
    yes(x.image());
    is(x.contract(), 39);
    no(x.contract(), 5);
    no(x.contract(), 5);
    due(x.status(6), 40);
    due(x.status(5), 2);
    yes(x.back());
    due(x.status(6), 39);
    is(x.contract(), 39);
    no(x.contract(), 5);
  }

  private static void term() {
    says("3: The PLACE holds a TERM: YIELDS 0, AMOUNT 0.");
    x.contract();
    for (int kind = 0; kind < 5; kind++) {
      for (int was = 0; was < 3; was++) {
        if (was == 1) yes(x.heading(0, 0, 31));
        if (was == 2) term(0, HALF, HOURS, 1, 2);
        if (was == 2) x.yields(0, 0, 31);
        if (was == 2) yes(x.amount(0, 0, 9));
        term(0, kind, STATED, 3, 5);
        is(x.kind(0, 0), kind);
        int[] want = {STATED, 3, 5, 0, 0};
        for (int what = 0; what < 5; what++) is(x.span(0, 0, what), want[what]);
        yes(x.strike(0, 0));
      }
    }
  }

  private static void termBounds() {
    says("3: Refused (1), too, for a, b that are not 0 .. 1440 (SORT 1)");
    x.contract();
    bounds(HOURS, 1440);
    says("3: a that is not 0 .. 4 (3)");
    x.contract();
    for (int a = 0; a <= 4; a++) term(0, EXCEPT, STATED, a, 0);
    for (int a : new int[] {-1, 5, LEAST_INT, MOST_INT}) no(x.term(0, 0, EXCEPT, STATED, a, 0), 1);
    is(x.span(0, 0, 1), 4);
    says("3: not 0 .. 129600 (a, b of 4)");
    x.contract();
    bounds(MINUTES, 129600);
    says("3: a, b of others mean nothing.");
    x.contract();
    for (int v : new int[] {-1, 5, 1441, 129601, LEAST_INT, MOST_INT}) {
      for (int sort : new int[] {ALL, FREE}) {
        term(0, EXCEPT, sort, v, -v);
        is(x.span(0, 0, 1), v);
        is(x.span(0, 0, 2), -v);
      }
      term(0, EXCEPT, STATED, 2, v);
      is(x.span(0, 0, 2), v);
    }
  }

  private static void bounds(int sort, int most) {
    int[] fine = {0, 1, most - 1, most};
    for (int a : fine) {
      for (int b : fine) {
        term(0, EXCEPT, sort, a, b);
        due(x.span(0, 0, 1), a);
        due(x.span(0, 0, 2), b);
      }
    }
    for (int bad : new int[] {-1, most + 1, LEAST_INT, MOST_INT}) {
      no(x.term(0, 0, HALF, sort, bad, 0), 1);
      no(x.term(0, 0, HALF, sort, most, bad), 1);
      no(x.term(0, 0, HALF, sort, bad, bad), 1);
    }
    is(x.kind(0, 0), EXCEPT);
    is(x.span(0, 0, 1), most);
  }

  private static void yields() {
    says("4: The TERM there YIELDS so: what its YIELDS were.");
    x.contract();
    term(0, HALF, ALL, 0, 0);
    term(1, HALF, ALL, 0, 0);
    int was = 0;
    for (int bits = 31; bits >= 0; bits--) {
      is(x.yields(0, 0, bits), was);
      is(x.span(0, 0, 3), bits);
      was = bits;
    }
    is(x.span(0, 1, 3), 0);
    says("4: Refused: not 0 .. 31 (1), nothing there (2), a HEADING (3).");
    x.contract();
    no(x.yields(0, 0, 0), 2);
    yes(x.heading(0, 0, 1));
    no(x.yields(0, 0, 0), 3);
    is(x.headed(0, 0), 1);
    term(0, HALF, ALL, 0, 0);
    is(x.yields(0, 0, 31), 0);
    for (int bad : new int[] {-1, 32, LEAST_INT, MOST_INT}) no(x.yields(0, 0, bad), 1);
    is(x.yields(0, 0, 0), 31);
    yes(x.strike(0, 0));
    no(x.yields(0, 0, 31), 2);
  }

  private static void amount() {
    says("5: The TERM there has this AMOUNT, -1000000 .. 1000000: true.");
    x.contract();
    term(0, EXCEPT, ALL, 0, 0);
    term(1, EXCEPT, ALL, 0, 0);
    for (int v : new int[] {-1000000, -1, 0, 1, 1000000}) {
      yes(x.amount(0, 0, v));
      is(x.span(0, 0, 4), v);
    }
    is(x.span(0, 1, 4), 0);
    says("5: Refused: another one (1), nothing there (2), a HEADING (3).");
    x.contract();
    no(x.amount(0, 0, 0), 2);
    yes(x.heading(0, 0, 1));
    no(x.amount(0, 0, 0), 3);
    is(x.headed(0, 0), 1);
    term(0, ALLOW, ALL, 0, 0);
    for (int bad : new int[] {-1000001, 1000001, LEAST_INT, MOST_INT}) no(x.amount(0, 0, bad), 1);
    is(x.span(0, 0, 4), 0);
    yes(x.strike(0, 0));
    no(x.amount(0, 0, 1000000), 2);
  }

  private static void heading() {
    says("6: The PLACE holds a HEADING: true.");
    ship(1);
    for (int was = 0; was < 3; was++) {
      if (was == 1) allow(0, 0, 30);
      yes(x.heading(0, 0, -was));
      is(x.kind(0, 0), 5);
      is(x.headed(0, 0), -was);
      // It is no TERM: none is allowed, none tells.
      is(x.told(0, ALLOWED), 0);
      is(x.why(0, 0, LOW), NEITHER);
    }
    yes(x.heading(0, 59, MOST_INT));
    is(x.headed(0, 59), MOST_INT);
    is(x.headed(0, 0), -2);
  }

  private static void strike() {
    says("7: The PLACE holds nothing: true.");
    ship(1);
    allow(0, 0, 10);
    yes(x.heading(0, 59, 1));
    yes(x.strike(0, 0));
    is(x.kind(0, 0), 6);
    is(x.sum(0, LIMIT, LOW), 0);
    is(x.kind(0, 59), 5);
    yes(x.strike(0, 59));
    is(x.kind(0, 59), 6);
    says("7: Refused (2) if it did.");
    x.contract();
    no(x.strike(0, 0), 2);
    yes(x.heading(0, 0, 0));
    no(x.strike(0, 1), 2);
    yes(x.strike(0, 0));
    no(x.strike(0, 0), 2);
    term(0, ALLOW, ALL, 0, 0);
    yes(x.strike(0, 0));
    no(x.strike(0, 0), 2);
  }

  private static void kind() {
    says("8: What a PLACE holds: the KIND of its TERM, 5 a HEADING, 6 nothing.");
    x.contract();
    is(x.kind(0, 59), 6);
    for (int kind = 0; kind < 5; kind++) {
      term(59, kind, ALL, 0, 0);
      is(x.kind(0, 59), kind);
    }
    yes(x.heading(0, 59, 6));
    is(x.kind(0, 59), 5);
    yes(x.strike(0, 59));
    is(x.kind(0, 59), 6);
  }

  private static void headed() {
    says("9: The HEADING there.");
    x.contract();
    for (int v : new int[] {0, -1, LEAST_INT, MOST_INT}) {
      yes(x.heading(0, 7, v));
      is(x.headed(0, 7), v);
    }
    says("9: Refused: nothing there (2), a TERM (3).");
    x.contract();
    no(x.headed(0, 0), 2);
    for (int kind = 0; kind < 5; kind++) {
      term(0, kind, ALL, 5, 0);
      no(x.headed(0, 0), 3);
    }
    yes(x.heading(0, 0, 77));
    is(x.headed(0, 0), 77);
    yes(x.strike(0, 0));
    no(x.headed(0, 0), 2);
  }

  private static void span() {
    says("10: Of the TERM there, what 0 SORT, 1 a, 2 b (as they were given), 3 YIELDS, 4 AMOUNT.");
    x.contract();
    int[][] given = {{ALL, -5, MOST_INT}, {HOURS, 1300, 200}, {FREE, LEAST_INT, 7}, {STATED, 4, -9}, {MINUTES, 129600, 0}};
    for (int[] g : given) {
      term(2, EXCEPT, g[0], g[1], g[2]);
      is(x.yields(0, 2, 21), 0);
      yes(x.amount(0, 2, -9));
      for (int what = 0; what < 3; what++) is(x.span(0, 2, what), g[what]);
      is(x.span(0, 2, 3), 21);
      is(x.span(0, 2, 4), -9);
    }
    says("10: Refused: another what (1), nothing there (2), a HEADING (3).");
    x.contract();
    for (int what = 0; what < 5; what++) no(x.span(0, 0, what), 2);
    yes(x.heading(0, 0, 5));
    for (int what = 0; what < 5; what++) no(x.span(0, 0, what), 3);
    term(0, EXCEPT, ALL, 0, 0);
    for (int bad : new int[] {-1, 5, LEAST_INT, MOST_INT}) no(x.span(0, 0, bad), 1);
    is(x.span(0, 0, 4), 0);
  }

  // ---- 11 to 22: PORTS

  private static void port() {
    says("11: this CONTRACT, so many DAYS, all there and whole, without EVENTS, no FREE day, TONS 0, OFFICE 0 to 1440, GRACE 0, OFFSET 0, RATE and BACK 0");
    x.contract();
    isNew(90, 0);
    says("11: The PORT is open anew: what it had is gone.");
    ship(2);
    x.contract();
    allowAside(3000);
    yes(x.port(0, 1, 3));
    is(x.told(0, CONTRACT), 1);
    yes(x.event(0, 1500, ARRIVED));
    yes(x.event(0, 1500, NOTICE));
    yes(x.event(0, 1500, ENDED));
    yes(x.tons(0, 12345));
    yes(x.office(0, 5, 6, 7));
    yes(x.offset(0, 9));
    yes(x.rate(0, 10000, 10000));
    for (int d = 0; d < 3; d++) is(x.free(0, d, true), false);
    is(x.tear(0, 0, 500), 0);
    yes(x.day(0, 2, false));
    isNew(3, 0);
  }

  /** PORT 0, opened just now, is as a new one. */
  private static void isNew(int days, int c) {
    yes(x.port(0, c, days));
    due(x.status(7), 0);
    int[] told = {NONE, NONE, NONE, x.told(0, ALLOWED), days, 0, 0, c};
    for (int what = 0; what < 8; what++) is(x.told(0, what), told[what]);
    is(x.weight(0, 0), 0);
    is(x.weight(0, 1), 0);
    is(x.state(0, 0), 0);
    is(x.state(0, days * 1440 - 1), 0);
    for (int d = 0; d < days; d++) due(x.free(0, d, false) ? 1 : 0, 0);
    yes(x.event(0, 0, ARRIVED));
    yes(x.event(0, 0, NOTICE));
    is(x.told(0, GOOD), 0);
    is(x.told(0, BEGIN), 0);
    is(x.sum(0, ONCE, LOW), x.told(0, ALLOWED) - 1);
    is(x.sum(0, MONEY, LOW), 0);
    is(x.tear(0, days - 1, 0), days == 1 ? 2 : 0);
    yes(x.event(0, 1, ENDED));
    is(x.sum(0, MONEY, LOW), 0);
    // OFFICE to 1440: the last minute of a DAY, too.
    yes(x.port(0, c, 1));
    yes(x.event(0, 1439, ARRIVED));
    yes(x.event(0, 1439, NOTICE));
    is(x.told(0, GOOD), 1439);
  }

  private static void portAlone() {
    says("11: It is a GROUP of its own.");
    ship(1);
    open(1, 0, 1);
    open(2, 0, 1);
    yes(x.together(7));
    is(x.sum(0, COUNTING, LOW), 3);
    open(0, 0, 1);
    is(x.sum(0, LEAST, LOW), 0);
    is(x.sum(0, COUNTING, LOW), 1);
    is(x.sum(1, LEAST, LOW), 1);
    is(x.sum(2, LEAST, LOW), 1);
    is(x.sum(2, COUNTING, LOW), 2);
    open(3, 0, 1);
    is(x.sum(3, COUNTING, LOW), 1);
    says("11: Refused (1) for another number of DAYS.");
    x.contract();
    yes(x.port(0, 0, 1));
    yes(x.port(1, 0, 90));
    for (int bad : new int[] {0, -1, 91, LEAST_INT, MOST_INT}) {
      no(x.port(0, 0, bad), 1);
      no(x.port(2, 0, bad), 1);
    }
    is(x.told(0, DAYS), 1);
    is(x.told(1, DAYS), 90);
    no(x.told(2, DAYS), 2);
  }

  private static void close() {
    says("12: The PORT is no more open.");
    ship(2);
    open(3, 0, 2);
    yes(x.together(9));
    due(x.status(7), 4);
    yes(x.close(0));
    due(x.status(7), 2);
    no(x.close(0), 2);
    no(x.sum(0, 0, LOW), 2);
    no(x.together(9), 2);
    is(x.sum(3, LEAST, LOW), 3);
    is(x.sum(3, COUNTING, LOW), 1);
    open(0, 0, 1);
    is(x.sum(3, LEAST, LOW), 3);
    is(x.told(0, EVENTS), 2);
    yes(x.close(3));
    no(x.told(3, DAYS), 2);
    is(x.told(0, DAYS), 1);
  }

  private static void event() {
    says("13: An EVENT comes to minute m.");
    x.contract();
    yes(x.port(0, 0, 2));
    int n = 0;
    for (int m : new int[] {2879, 0, 1439, 1440, 0, 2879}) {
      yes(x.event(0, m, BEGAN + n % 4));
      is(x.state(0, m), 1 + n % 4);
      n++;
      is(x.told(0, EVENTS), n);
      due(x.status(7), n);
    }
    says("13: Refused: m is UNKNOWN (2)");
    ship(3);
    yes(x.day(0, 1, false));
    is(x.tear(0, 2, 600), 0);
    no(x.event(0, 1440, BEGAN), 2);
    no(x.event(0, 2879, BEGAN), 2);
    yes(x.event(0, 1439, BEGAN));
    yes(x.event(0, 2880, BEGAN));
    yes(x.event(0, 3479, BEGAN));
    no(x.event(0, 3480, BEGAN), 2);
    no(x.event(0, 4319, BEGAN), 2);
    is(x.told(0, EVENTS), 5);
    says("13: there are 5000 (5).");
    full();
    is(x.tear(1, 9, 980), 1);
    yes(x.event(1, 14400, BEGAN));
    due(x.status(7), 5000);
    no(x.event(1, 14400, BEGAN), 5);
    no(x.event(0, 0, BEGAN), 5);
    yes(x.day(1, 10, true));
    due(x.status(7), 4999);
    yes(x.event(0, 0, BEGAN));
    no(x.event(0, 0, BEGAN), 5);
    yes(x.close(1));
    due(x.status(7), 4501);
    yes(x.event(0, 0, BEGAN));
  }

  private static void day() {
    says("14: DAY d is there, whole, without EVENTS (is)");
    ship(3);
    for (int d = 0; d < 3; d++) {
      yes(x.event(0, d * 1440, BEGAN));
      yes(x.event(0, d * 1440 + 1439, RAIN));
    }
    is(x.tear(0, 1, 700), 1);
    due(x.status(7), 7);
    yes(x.day(0, 1, true));
    due(x.status(7), 6);
    is(x.told(0, UNKNOWN), 0);
    is(x.state(0, 1440), 2);
    is(x.state(0, 2879), 2);
    is(x.state(0, 2880), 1);
    yes(x.day(0, 2, true));
    yes(x.day(0, 0, true));
    due(x.status(7), 0);
    is(x.told(0, GOOD), NONE);
    says("14: or missing.");
    ship(3);
    for (int d = 0; d < 3; d++) yes(x.event(0, d * 1440 + 1439, RAIN));
    yes(x.day(0, 1, false));
    yes(x.day(0, 1, false));
    is(x.told(0, UNKNOWN), 1440);
    is(x.told(0, EVENTS), 4);
    yes(x.day(0, 2, false));
    yes(x.day(0, 0, false));
    is(x.told(0, UNKNOWN), 4320);
    due(x.status(7), 0);
    is(x.told(0, DAYS), 3);
    yes(x.day(0, 2, true));
    is(x.told(0, UNKNOWN), 2880);
    yes(x.event(0, 4319, RAIN));
  }

  private static void tear() {
    says("15: DAY d is TORN from its minute t on (0 .. 1439), or from where it was TORN if that is ahead");
    ship(3);
    int[] tear = {1439, 900, 900, 901, 1439, 1, 2, 0, 1439};
    int[] torn = {1439, 900, 900, 900, 900, 1, 1, 0, 0};
    for (int i = 0; i < tear.length; i++) {
      is(x.tear(0, 1, tear[i]), 0);
      is(x.told(0, UNKNOWN), 1440 - torn[i]);
      no(x.state(0, 1440 + torn[i]), 2);
      is(x.state(0, 1440 + torn[i] - 1), 0);
    }
    for (int bad : new int[] {-1, 1440, LEAST_INT, MOST_INT}) no(x.tear(0, 0, bad), 1);
    is(x.told(0, UNKNOWN), 1440);
    says("15: EVENTS from there on are gone: how many.");
    ship(3);
    for (int m : new int[] {1439, 1440, 1500, 1600, 1600, 2879, 2880}) yes(x.event(0, m, BERTHED));
    is(x.tear(0, 1, 1439), 1);
    is(x.tear(0, 1, 161), 0);
    is(x.tear(0, 1, 160), 2);
    is(x.tear(0, 1, 700), 0);
    is(x.tear(0, 1, 0), 2);
    is(x.told(0, EVENTS), 4);
    is(x.tear(0, 0, 0), 3);
    is(x.tear(0, 2, 0), 1);
    due(x.status(7), 0);
    says("15: Refused (2) if it is missing.");
    ship(2);
    yes(x.day(0, 1, false));
    for (int t : new int[] {0, 700, 1439}) no(x.tear(0, 1, t), 2);
    no(x.tear(0, 1, 1440), 1);
    yes(x.day(0, 1, true));
    is(x.tear(0, 1, 1439), 0);
  }

  // ---- 16: copy

  private static void copy() {
    says("16: DAYS e, e + 1 .. of PORT q come to d, d + 1 .. of PORT p");
    ship(5);
    open(1, 0, 3);
    yes(x.event(1, 10, BEGAN));
    yes(x.event(1, 10, RAIN));
    is(x.tear(1, 1, 30), 0);
    yes(x.event(1, 1440 + 29, STOPPED));
    yes(x.event(1, 2880, SHIFTED));
    for (int d = 1; d < 5; d++) yes(x.event(0, d * 1440 + 700, BEGAN));
    is(x.copy(0, 1, 1, 0, 3), 3);
    is(x.told(0, EVENTS), 2 + 4 + 1 + 1 + 1);
    is(x.told(0, UNKNOWN), 1410);
    is(x.state(0, 1440 + 9), 0);
    is(x.state(0, 1440 + 10), 2);
    is(x.state(0, 2880 + 29), 3);
    no(x.state(0, 2880 + 30), 2);
    is(x.state(0, 3 * 1440), 4);
    is(x.state(0, 4 * 1440 + 699), 4);
    is(x.state(0, 4 * 1440 + 700), 1);
    // What they come from stays.
    is(x.told(1, EVENTS), 6);
    is(x.told(1, UNKNOWN), 1410);
    says("16: missing ones, too");
    ship(3);
    open(1, 0, 3);
    yes(x.day(1, 1, false));
    yes(x.event(0, 1440, BEGAN));
    yes(x.day(0, 2, false));
    is(x.copy(0, 1, 1, 1, 2), 2);
    is(x.told(0, UNKNOWN), 1440);
    is(x.told(0, EVENTS), 2);
    no(x.state(0, 1440), 2);
    is(x.state(0, 2880), 0);
    // A DAY is FREE by the PORT, not by what its LOG holds.
    is(x.free(1, 0, true), false);
    is(x.free(0, 2, true), false);
    is(x.copy(0, 0, 1, 0, 3), 3);
    is(x.free(0, 0, false), false);
    is(x.free(0, 2, false), true);
  }

  private static void copyAtFirst() {
    says("16: as they were at first");
    ship(4);
    for (int d = 0; d < 4; d++) yes(x.event(0, d * 1440 + d, BEGAN + d));
    is(x.tear(0, 0, 600), 0);
    // Each d + 1 is what d was.
    is(x.copy(0, 1, 0, 0, 3), 3);
    for (int d = 0; d < 3; d++) is(x.state(0, (d + 1) * 1440 + d), 1 + d);
    is(x.told(0, UNKNOWN), 2 * 840);
    due(x.status(7), 3 + 3 + 1 + 1);
    // Each d is what d + 1 was.
    is(x.copy(0, 0, 0, 1, 3), 3);
    for (int d = 0; d < 3; d++) is(x.state(0, d * 1440 + d), 1 + d);
    is(x.state(0, 3 * 1440 + 2), 3);
    is(x.told(0, UNKNOWN), 840);
    // Each is what it was.
    is(x.copy(0, 0, 0, 0, 4), 4);
    for (int d = 0; d < 3; d++) is(x.state(0, d * 1440 + d), 1 + d);
    is(x.told(0, UNKNOWN), 840);
    due(x.copy(0, 2, 0, 0, 4), 2);
    is(x.state(0, 3 * 1440 + 1), 2);
  }

  private static void copyMany() {
    says("16: n of them (0 .. 90)");
    x.contract();
    yes(x.port(0, 0, 90));
    yes(x.port(1, 0, 90));
    for (int d = 0; d < 90; d++) yes(x.event(1, d * 1440 + d, BERTHED));
    is(x.copy(0, 0, 1, 0, 0), 0);
    is(x.told(0, EVENTS), 0);
    is(x.copy(0, 89, 1, 89, 0), 0);
    is(x.copy(0, 89, 1, 3, 1), 1);
    is(x.told(0, EVENTS), 1);
    is(x.copy(0, 0, 1, 0, 90), 90);
    is(x.told(0, EVENTS), 90);
    due(x.status(7), 180);
    for (int bad : new int[] {-1, 91, LEAST_INT, MOST_INT}) no(x.copy(0, 0, 1, 0, bad), 1);
    due(x.status(7), 180);
  }

  private static void copyBeyond() {
    says("16: one by one up to the first that is beyond the end of either LOG: how many came; these stand, and status() tells 4");
    ship(5);
    open(1, 0, 3);
    for (int d = 0; d < 3; d++) yes(x.event(1, d * 1440 + 5, BEGAN + d));
    // The end of the LOG of PORT p, of q, of both.
    due(x.copy(0, 4, 1, 0, 2), 1);
    due(x.status(0), 4);
    is(x.state(0, 4 * 1440 + 5), 1);
    due(x.copy(0, 0, 1, 2, 90), 1);
    due(x.status(0), 4);
    is(x.state(0, 5), 3);
    due(x.copy(0, 3, 1, 1, 3), 2);
    due(x.status(0), 4);
    is(x.state(0, 3 * 1440 + 5), 2);
    is(x.state(0, 4 * 1440 + 5), 3);
    is(x.copy(0, 3, 1, 1, 2), 2);
    due(x.copy(1, 0, 0, 3, 4), 2);
    due(x.status(0), 4);
    says("16: such a call is one of the refused, too");
    ship(2);
    due(x.copy(0, 0, 0, 1, 2), 1);
    due(x.copy(0, 1, 0, 1, 90), 1);
    due(x.status(0), 4);
    due(x.status(4), 2);
    due(x.status(5), 0);
    full();
    due(x.copy(1, 10, 0, 0, 1), 0);
    due(x.status(0), 5);
    due(x.status(5), 1);
    due(x.status(4), 0);
  }

  private static void copyWhenFull() {
    says("16: or with which there would be more than 5000 EVENTS: how many came; these stand, and status() tells 5");
    full();
    due(x.copy(1, 10, 0, 0, 1), 0);
    due(x.status(0), 5);
    due(x.copy(1, 10, 0, 0, 2), 0);
    due(x.status(0), 5);
    due(x.status(7), 5000);
    yes(x.day(0, 89, true));
    is(x.copy(1, 10, 0, 0, 1), 1);
    due(x.status(7), 5000);
    // One EVENT too many.
    yes(x.day(1, 10, true));
    yes(x.event(0, 0, BERTHED));
    due(x.copy(1, 10, 0, 1, 1), 0);
    due(x.status(0), 5);
    is(x.tear(0, 0, 980), 1);
    is(x.copy(1, 10, 0, 1, 1), 1);
    due(x.status(7), 5000);
    // The first fits, the second does not: the first stands.
    full();
    is(x.tear(0, 2, 800), 10);
    for (int i = 0; i < 10; i++) yes(x.event(0, 1440, SHIFTED));
    due(x.copy(1, 0, 0, 0, 2), 1);
    due(x.status(0), 5);
    due(x.status(7), 5000);
    is(x.copy(1, 0, 0, 2, 2), 2);
    due(x.status(7), 4990);
    // Both, in either order: the first of them is told.
    full();
    due(x.copy(1, 9, 0, 0, 3), 1);
    due(x.status(0), 5);
    due(x.copy(0, 89, 1, 0, 2), 1);
    due(x.status(0), 4);
    says("16: An EVENT of a DAY that goes for it is none of the 5000 any more.");
    full();
    is(x.copy(1, 0, 0, 0, 10), 10);
    due(x.status(7), 5000);
    is(x.copy(0, 0, 1, 10, 1), 1);
    due(x.status(7), 4950);
    is(x.copy(1, 10, 0, 1, 1), 1);
    due(x.status(7), 5000);
    due(x.copy(0, 0, 1, 0, 1), 0);
    due(x.status(0), 5);
    due(x.status(7), 5000);
  }

  private static void copyFewer() {
    says("16: one by one");
    full();
    // 50 come for 25, then 50 for 50, then 50 for none.
    is(x.tear(1, 3, 500), 25);
    due(x.copy(1, 3, 0, 1, 90), 7);
    due(x.status(0), 5);
    due(x.status(7), 5000);
    // 40 and then 60 for 50 and 50 fit, 60 and then 40 do not.
    full();
    is(x.tear(0, 1, 800), 10);
    for (int i = 0; i < 10; i++) yes(x.event(0, 2880, BERTHED));
    is(x.tear(0, 3, 800), 10);
    for (int i = 0; i < 10; i++) yes(x.event(1, 14400, BERTHED));
    due(x.status(7), 5000);
    due(x.copy(1, 0, 0, 2, 2), 0);
    due(x.status(0), 5);
    is(x.copy(1, 0, 0, 1, 2), 2);
    due(x.status(7), 5000);
  }

  private static void copyBounds() {
    says("16: Refused for DAYS d, e that there can't be in the LOGS (1).");
    ship(5);
    open(1, 0, 3);
    for (int bad : new int[] {-1, 5, 89, 90, LEAST_INT, MOST_INT}) no(x.copy(0, bad, 1, 0, 1), 1);
    for (int bad : new int[] {-1, 3, 89, 90, LEAST_INT, MOST_INT}) no(x.copy(0, 0, 1, bad, 1), 1);
    no(x.copy(0, 5, 1, 0, 0), 1);
    no(x.copy(0, 0, 1, 3, 0), 1);
    is(x.copy(0, 4, 1, 2, 1), 1);
    is(x.copy(0, 4, 1, 2, 0), 0);
  }

  // ---- 17 to 22

  private static void free() {
    says("17: DAY d is FREE, or not: whether it was.");
    ship(90);
    for (int d : new int[] {0, 1, 89}) {
      is(x.free(0, d, false), false);
      is(x.free(0, d, true), false);
      is(x.free(0, d, true), true);
    }
    is(x.told(0, GOOD), 2880);
    is(x.free(0, 2, false), false);
    is(x.free(0, 0, false), true);
    is(x.free(0, 0, false), false);
    is(x.told(0, GOOD), 0);
    // It is FREE though its LOG is another.
    yes(x.day(0, 1, false));
    yes(x.day(0, 1, true));
    is(x.free(0, 1, false), true);
    is(x.free(0, 89, false), true);
  }

  private static void tons() {
    says("18: TONS in thousandths, 0 .. 100000000. Refused (1) for others.");
    ship(1);
    for (long fine : new long[] {100000000L, 1, 0, 99999999}) {
      yes(x.tons(0, fine));
      is(x.weight(0, 0) * 1000 + x.weight(0, 1), fine);
    }
    for (long bad : new long[] {-1, 100000001L, Long.MIN_VALUE, Long.MAX_VALUE, 1L << 32}) no(x.tons(0, bad), 1);
    is(x.weight(0, 0), 99999);
    is(x.weight(0, 1), 999);
  }

  private static void office() {
    says("19: OFFICE hours (0 .. 1440 both) and GRACE (0 .. 100000).");
    ship(90);
    int[] from = {0, 1439, 540, 1};
    int[] to = {1440, 1440, 1020, 2};
    int[] grace = {100000, 0, 1, 99999};
    for (int i = 0; i < 4; i++) {
      yes(x.office(0, from[i], to[i], grace[i]));
      is(x.told(0, GOOD), from[i]);
      is(x.told(0, BEGIN), from[i] + grace[i]);
    }
    yes(x.office(0, 1440, 0, 0));
    is(x.told(0, GOOD), NONE);
    yes(x.office(0, 1, 2, 3));
    says("19: Refused (1) for others.");
    ship(90);
    yes(x.office(0, 1, 2, 3));
    for (int bad : new int[] {-1, 1441, LEAST_INT, MOST_INT}) {
      no(x.office(0, bad, 1440, 0), 1);
      no(x.office(0, 0, bad, 0), 1);
    }
    for (int bad : new int[] {-1, 100001, LEAST_INT, MOST_INT}) no(x.office(0, 0, 1440, bad), 1);
    is(x.told(0, BEGIN), 4);
  }

  private static void offset() {
    says("20: OFFSET (0 .. 1000000). Refused (1) for others.");
    ship(1);
    allowAside(10);
    for (int fine : new int[] {0, 1, 999999, 1000000}) {
      yes(x.offset(0, fine));
      is(x.sum(0, ONCE, LOW), fine + 9);
    }
    for (int bad : new int[] {-1, 1000001, LEAST_INT, MOST_INT}) no(x.offset(0, bad), 1);
    is(x.sum(0, ONCE, LOW), 1000009);
    // Its minutes are of the LOG all the same.
    is(x.told(0, BEGIN), 0);
    is(x.told(0, END), 1440);
    is(x.counts(0, 0, 1440, LOW), 2880);
  }

  private static void rate() {
    says("21: RATE and BACK (0 .. 1000000000 both). Refused (1) for others.");
    ship(1);
    for (long fine : new long[] {0, 1, 999999999, 1000000000}) {
      yes(x.rate(0, fine, 1000000000 - fine));
      is(x.sum(0, MONEY, LOW), fine);
    }
    for (long bad : new long[] {-1, 1000000001L, Long.MIN_VALUE, Long.MAX_VALUE, 1L << 32}) {
      no(x.rate(0, bad, 0), 1);
      no(x.rate(0, 0, bad), 1);
    }
    is(x.sum(0, MONEY, LOW), 1000000000);
    allowAside(1440);
    yes(x.event(0, 0, ENDED));
    for (long fine : new long[] {0, 1, 999999999, 1000000000}) {
      yes(x.rate(0, 1000000000 - fine, fine));
      is(x.sum(0, MONEY, LOW), -fine);
    }
  }

  private static void together() {
    says("22: The PORTS of the set bits (bit 0: PORT 0) are one GROUP, each other open one its own.");
    x.contract();
    for (int p = 0; p < 8; p++) open(p, 0, 1);
    for (int bits : new int[] {255, 0, 1, 128, 129, 6, 254, 85}) {
      yes(x.together(bits));
      int least = Integer.numberOfTrailingZeros(bits);
      for (int p = 0; p < 8; p++) {
        boolean in = (bits >> p & 1) == 1;
        is(x.sum(p, LEAST, LOW), in ? least : p);
        is(x.sum(p, COUNTING, LOW), in ? Integer.bitCount(bits) : 1);
      }
    }
    says("22: Refused: bits that are not 0 .. 255 (1), one that is not open (2).");
    yes(x.together(0));
    for (int p = 0; p < 8; p++) no(x.together(1 << p), 2);
    for (int bad : new int[] {-1, 256, 257, LEAST_INT, MOST_INT}) no(x.together(bad), 1);
    ship(1);
    open(7, 0, 1);
    yes(x.together(129));
    no(x.together(130), 2);
    no(x.together(1 + 64), 2);
    no(x.together(255), 2);
    is(x.sum(7, LEAST, LOW), 0);
    yes(x.close(0));
    no(x.together(129), 2);
    yes(x.together(128));
  }

  // ---- 23 to 31: what is told

  private static void told() {
    says("23: What 0 GOOD, 1 BEGIN, 2 END, 3 ALLOWED, 4 days, 5 EVENTS, 6 UNKNOWN minutes of its LOG, 7 the CONTRACT");
    ship(90);
    x.contract();
    allow(1, 0, 33);
    yes(x.port(0, 1, 90));
    yes(x.event(0, 50, ARRIVED));
    yes(x.event(0, 60, NOTICE));
    yes(x.event(0, 100, ENDED));
    yes(x.office(0, 0, 1440, 10));
    is(x.tear(0, 89, 1439), 0);
    int[] want = {60, 70, 100, 33, 90, 3, 1, 1};
    for (int what = 0; what < 8; what++) is(x.told(0, what), want[what]);
    for (int d = 0; d < 90; d++) x.day(0, d, false);
    is(x.told(0, UNKNOWN), 129600);
    says("23: NONE where there is none (2 also if the PORT does not COUNT; not refused).");
    x.contract();
    yes(x.port(0, 0, 2));
    int[] bare = {NONE, NONE, NONE, 0, 2, 0, 0, 0};
    for (int what = 0; what < 8; what++) is(x.told(0, what), bare[what]);
    yes(x.event(0, 0, ENDED));
    is(x.told(0, END), NONE);
    yes(x.event(0, 200, ARRIVED));
    yes(x.event(0, 200, NOTICE));
    yes(x.office(0, 0, 1440, 2679));
    is(x.told(0, BEGIN), 2879);
    is(x.told(0, END), 2880);
    yes(x.office(0, 0, 1440, 2680));
    is(x.told(0, GOOD), 200);
    is(x.told(0, BEGIN), 2880);
    is(x.told(0, END), NONE);
    says("23: Refused (1) for another what.");
    ship(1);
    for (int bad : new int[] {-1, 8, LEAST_INT, MOST_INT}) no(x.told(0, bad), 1);
  }

  private static void weight() {
    says("24: TONS: whole ones (0), thousandths beside (1).");
    ship(1);
    int[] tons = {0, 1, 999, 1000, 1001, 12345678, 99999999, 100000000};
    int[] whole = {0, 0, 0, 1, 1, 12345, 99999, 100000};
    int[] beside = {0, 1, 999, 0, 1, 678, 999, 0};
    for (int i = 0; i < tons.length; i++) {
      yes(x.tons(0, tons[i]));
      is(x.weight(0, 0), whole[i]);
      is(x.weight(0, 1), beside[i]);
    }
    says("24: Refused (1) for another what.");
    ship(1);
    for (int bad : new int[] {-1, 2, LEAST_INT, MOST_INT}) no(x.weight(0, bad), 1);
  }

  private static void state() {
    says("25: The STATE of minute m. Refused (2) if it is UNKNOWN.");
    ship(3);
    yes(x.event(0, 1439, SHIFTED));
    yes(x.day(0, 1, false));
    is(x.tear(0, 2, 1), 0);
    is(x.state(0, 1438), 0);
    is(x.state(0, 1439), 4);
    no(x.state(0, 1440), 2);
    no(x.state(0, 2879), 2);
    is(x.state(0, 2880), 4);
    no(x.state(0, 2881), 2);
    no(x.state(0, 4319), 2);
    // Also of minutes that are none of those that count.
    yes(x.office(0, 0, 0, 0));
    is(x.state(0, 1439), 4);
  }

  private static void minute() {
    says("26: Minute m: the HALVES that it adds, 3 if it is UNKNOWN");
    ship(2);
    allowAside(1000);
    term(0, HALF, MINUTES, 10, 20);
    term(1, EXCEPT, MINUTES, 20, 30);
    int[] at = {0, 9, 10, 19, 20, 29, 30};
    int[] want = {2, 2, 1, 1, 0, 0, 2};
    is(x.tear(0, 1, 1400), 0);
    for (boolean high : new boolean[] {LOW, HIGH}) {
      for (int i = 0; i < at.length; i++) is(x.minute(0, at[i], high), want[i]);
      is(x.minute(0, 2839, high), 2);
      is(x.minute(0, 2840, high), 3);
      is(x.minute(0, 2879, high), 3);
    }
    says("26: NONE (not refused) if it is none of its minutes.");
    ship(2);
    yes(x.office(0, 10, 1440, 5));
    yes(x.event(0, 1440, ENDED));
    is(x.tear(0, 1, 1), 0);
    is(x.minute(0, 0, LOW), NONE);
    is(x.minute(0, 14, LOW), NONE);
    is(x.minute(0, 15, LOW), 2);
    is(x.minute(0, 1439, LOW), 2);
    is(x.minute(0, 1440, LOW), NONE);
    // Though it be UNKNOWN.
    is(x.minute(0, 1441, LOW), NONE);
    is(x.minute(0, 2879, HIGH), NONE);
    yes(x.office(0, 0, 0, 0));
    is(x.minute(0, 15, LOW), NONE);
    is(x.minute(0, 1441, LOW), NONE);
  }

  private static void why() {
    says("27: The PLACE of the TERM that tells minute m; -2 without one, -3 if it is UNKNOWN");
    ship(2);
    allowAside(100);
    term(0, HALF, MINUTES, 10, 20);
    term(57, EXCEPT, MINUTES, 20, 30);
    term(58, ALWAYS, MINUTES, 200, 210);
    is(x.tear(0, 1, 1400), 0);
    int[] at = {0, 9, 10, 19, 20, 29, 30, 199, 200, 209, 210, 2839, 2840, 2879};
    int[] want = {-2, -2, 0, 0, 57, 57, -2, -2, 58, 58, -2, -2, -3, -3};
    for (int i = 0; i < at.length; i++) {
      is(x.why(0, at[i], LOW), want[i]);
      is(x.why(0, at[i], HIGH), want[i]);
    }
    says("27: NONE (not refused) if it is none of its minutes.");
    ship(2);
    yes(x.office(0, 10, 1440, 5));
    yes(x.event(0, 1440, ENDED));
    is(x.tear(0, 1, 1), 0);
    is(x.why(0, 0, LOW), NONE);
    is(x.why(0, 14, LOW), NONE);
    is(x.why(0, 15, LOW), NEITHER);
    is(x.why(0, 1439, LOW), NEITHER);
    is(x.why(0, 1440, LOW), NONE);
    is(x.why(0, 1441, HIGH), NONE);
    yes(x.office(0, 0, 0, 0));
    is(x.why(0, 15, LOW), NONE);
  }

  private static void counts() {
    says("28: HALVES of its minutes from .. to - 1 (those that it has).");
    ship(2);
    allowAside(5000);
    term(0, HALF, HOURS, 0, 60);
    yes(x.office(0, 10, 1440, 0));
    yes(x.event(0, 2000, ENDED));
    int[] from = {0, 0, 10, 11, 9, 59, 59, 60, 60, 61, 1999, 2000, 1999, 0, 1, MOST_INT, 0, 1440};
    int[] to = {10, 11, 11, 11, 12, 60, 61, 60, 61, 60, 2000, 2001, 3000, MOST_INT, 0, MOST_INT, 2000, 1500};
    int[] want = {0, 1, 1, 0, 2, 1, 3, 0, 2, 0, 2, 0, 2, 50 + 2760 + 60 + 1000, 0, 0, 3870, 60};
    for (int i = 0; i < from.length; i++) is(x.counts(0, from[i], to[i], LOW), want[i]);
    is(x.tear(0, 0, 1430), 0);
    is(x.counts(0, 1420, 1450, LOW), 20 + 10);
    is(x.counts(0, 1420, 1450, HIGH), 20 + 20 + 10);
    yes(x.office(0, 0, 0, 0));
    is(x.counts(0, 0, MOST_INT, HIGH), 0);
    // Of the PORT's own, though by the sums of its GROUP.
    ship(1);
    open(1, 0, 1);
    yes(x.together(3));
    is(x.counts(1, 0, 1440, LOW), 2880);
    says("28: Refused (1) for ints below 0.");
    ship(1);
    for (int bad : new int[] {-1, LEAST_INT}) {
      no(x.counts(0, bad, 5, LOW), 1);
      no(x.counts(0, 0, bad, LOW), 1);
      no(x.counts(0, bad, bad, LOW), 1);
    }
    is(x.counts(0, 0, 0, LOW), 0);
  }

  private static void by() {
    says("29: Of its minutes, how many are told by the TERM at a PLACE (or -2, -3 as why() tells).");
    ship(2);
    allowAside(100);
    term(0, EXCEPT, HOURS, 0, 60);
    term(58, ALWAYS, MINUTES, 200, 300);
    is(x.tear(0, 1, 1400), 0);
    int[] places = {0, 58, -2, -3, 1, 57, 59};
    int[] want = {60, 100, 2880 - 60 - 100 - 40, 40, 0, 0, 0};
    for (int i = 0; i < places.length; i++) {
      is(x.by(0, places[i], LOW), want[i]);
      is(x.by(0, places[i], HIGH), want[i]);
    }
    yes(x.office(0, 59, 1440, 0));
    is(x.by(0, 0, LOW), 1);
    yes(x.event(0, 250, ENDED));
    is(x.by(0, 58, LOW), 50);
    is(x.by(0, -3, LOW), 0);
    term(59, HALF, ALL, 0, 0);
    is(x.by(0, 59, LOW), 0);
    yes(x.amount(0, 58, 0));
    allow(0, 1, 5000);
    is(x.by(0, 59, LOW), 191);
    for (int bad : new int[] {-1, -4, 60, LEAST_INT, MOST_INT}) no(x.by(0, bad, LOW), 1);
    yes(x.office(0, 0, 0, 0));
    for (int place : places) is(x.by(0, place, HIGH), 0);
  }

  private static void sum() {
    says("30: Of its GROUP, what 0 HALVES, 1 LIMIT, 2 ONCE, 3 OWED, 4 SAVED, 5 MONEY, 6 minutes, 7 the least PORT, 8 how many PORTS COUNT.");
    ship(1);
    allowAside(100);
    yes(x.rate(0, 5760, 5760));
    long[] owes = {2880, 200, 99, 2680, 0, 5360, 1440, 0, 1};
    for (int what = 0; what < 9; what++) is(x.sum(0, what, LOW), owes[what]);
    open(2, 0, 1);
    open(5, 0, 1);
    yes(x.office(5, 0, 0, 0));
    yes(x.together(1 + 4 + 32));
    yes(x.event(0, 30, ENDED));
    yes(x.event(2, 50, ENDED));
    long[] saves = {160, 400, NONE, 0, 240, -480, 80, 0, 2};
    for (int p : new int[] {0, 2, 5}) for (int what = 0; what < 9; what++) is(x.sum(p, what, LOW), saves[what]);
    yes(x.together(4 + 32));
    is(x.sum(5, LEAST, LOW), 2);
    is(x.sum(0, LEAST, LOW), 0);
    yes(x.together(0));
    long[] none = {0, 0, NONE, 0, 0, 0, 0, 5, 0};
    for (int what = 0; what < 9; what++) is(x.sum(5, what, HIGH), none[what]);
    says("30: Refused (1) for another what.");
    ship(1);
    for (int bad : new int[] {-1, 9, LEAST_INT, MOST_INT}) no(x.sum(0, bad, LOW), 1);
  }

  private static void asIf() {
    says("31: As sum(), as if the PLACE held what PLACE to of it holds: OWED less SAVED.");
    ship(1);
    allow(0, 0, 100);
    term(1, EXCEPT, HOURS, 0, 60);
    allow(0, 59, 30);
    x.yields(0, 59, 1 << EXCEPT);
    yes(x.heading(0, 3, 4));
    is(x.sum(0, OWED, LOW), 2 * (1440 - 60 - 130));
    is(x.as(0, 1, 1, LOW), 2 * (1440 - 60 - 130));
    is(x.as(0, 59, 59, LOW), 2 * (1440 - 60 - 130));
    is(x.as(0, 59, 0, LOW), 2 * (1440 - 200));
    is(x.as(0, 0, 59, HIGH), 2 * (1440 - 60 - 60));
    is(x.as(0, 3, 1, LOW), 2 * (1440 - 60 - 130));
    is(x.as(0, 3, 0, LOW), 2 * (1440 - 230));
    // To a HEADING, to a PLACE that holds nothing.
    is(x.as(0, 1, 3, LOW), 2 * (1440 - 130));
    is(x.as(0, 1, 58, LOW), 2 * (1440 - 130));
    yes(x.event(0, 10, ENDED));
    is(x.as(0, 1, 1, LOW), 0 - 260);
    is(x.as(0, 59, 1, LOW), 0 - 200);
    // All of it: its SPAN, too.
    ship(1);
    allow(0, 0, 1440);
    term(1, EXCEPT, HOURS, 0, 60);
    term(2, EXCEPT, MINUTES, 100, 250);
    yes(x.event(0, 1000, ENDED));
    is(x.sum(0, SAVED, LOW), 2880 - 2 * (1000 - 210));
    is(x.as(0, 1, 2, LOW), 2 * (1000 - 150) - 2880);
    is(x.as(0, 2, 1, LOW), 2 * (1000 - 60) - 2880);
    is(x.as(0, 3, 2, LOW), 2 * (1000 - 210) - 2880);
    is(x.as(0, 0, 1, LOW), 2 * 1000);
    says("31: or nothing (to NONE)");
    ship(1);
    allow(0, 0, 100);
    term(59, EXCEPT, HOURS, 0, 60);
    is(x.as(0, 59, NONE, LOW), 2 * (1440 - 100));
    is(x.as(0, 0, NONE, HIGH), 2880);
    is(x.as(0, 58, NONE, LOW), 2 * (1440 - 160));
    yes(x.event(0, 10, ENDED));
    is(x.as(0, 59, NONE, LOW), 20 - 200);
    is(x.as(0, 0, NONE, LOW), 20);
    for (int bad : new int[] {-2, 60, LEAST_INT, MOST_INT}) no(x.as(0, 0, bad, LOW), 1);
    for (int bad : new int[] {-1, 60, LEAST_INT, MOST_INT}) no(x.as(0, bad, 0, LOW), 1);
  }

  private static void asOfGroup() {
    says("31: the PLACE of the PORT's CONTRACT (wherever that is one of the GROUP's)");
    ship(1);
    allow(0, 0, 100);
    allow(0, 1, 20);
    x.contract();
    allow(1, 0, 7);
    open(1, 0, 1);
    open(2, 1, 1);
    for (int p = 0; p < 3; p++) yes(x.event(p, 10, ENDED));
    yes(x.together(7));
    is(x.sum(1, SAVED, LOW), 2 * 247 - 60);
    is(x.as(1, 0, NONE, LOW), 60 - 2 * 47);
    is(x.as(0, 0, 1, LOW), 60 - 2 * 87);
    is(x.as(2, 0, NONE, LOW), 60 - 2 * 240);
    is(x.as(2, 0, 1, LOW), 60 - 2 * 240);
    yes(x.together(6));
    is(x.as(1, 0, NONE, LOW), 40 - 2 * 27);
    says("31: Nothing changes.");
    ship(1);
    allow(0, 0, 100);
    x.yields(0, 0, 9);
    term(1, EXCEPT, HOURS, 5, 60);
    yes(x.heading(0, 2, 4));
    int[][] was = new int[3][5];
    for (int round = 0; round < 2; round++) {
      for (int place = 0; place < 2; place++) {
        for (int what = 0; what < 5; what++) {
          if (round == 0) was[place][what] = x.span(0, place, what);
          is(x.span(0, place, what), was[place][what]);
        }
        is(x.kind(0, place), place == 0 ? ALLOW : EXCEPT);
      }
      is(x.headed(0, 2), 4);
      is(x.kind(0, 3), 6);
      for (int place = 0; place < 4; place++) for (int to = NONE; to < 4; to++) x.as(0, place, to, LOW);
    }
    // Nor in the last PLACES of the last CONTRACT.
    for (int c = 1; c < 40; c++) is(x.contract(), c);
    yes(x.heading(39, 59, 1));
    yes(x.heading(39, 58, 2));
    is(x.as(0, 0, 1, LOW), 2880);
    open(1, 39, 1);
    is(x.as(1, 59, 57, LOW), 2880);
    is(x.headed(39, 59), 1);
    is(x.headed(39, 58), 2);
    is(x.kind(39, 57), 6);
  }

  // ---- 32 to 34: claims

  private static void claim() {
    says("32: A claim for a PORT begins, of no minute.");
    ship(1);
    due(x.check(0, LOW), -4);
    yes(x.claim(0));
    due(x.status(8), 0);
    is(x.check(0, LOW), 0);
    is(x.tell(1440, -2), 1);
    is(x.check(2880, LOW), NONE);
    // Another one: that of before is gone.
    yes(x.claim(0));
    due(x.status(8), 0);
    is(x.check(2880, LOW), 0);
    open(1, 0, 1);
    yes(x.office(1, 100, 1440, 0));
    is(x.tell(1, -2), 1);
    yes(x.claim(1));
    due(x.status(8), 0);
    is(x.check(0, LOW), 100);
    no(x.claim(2), 2);
    is(x.tell(1, -2), 1);
    is(x.check(0, LOW), 101);
  }

  private static void tell() {
    says("33: The claim tells its next n minutes (1 .. 129600) by why (a PLACE, -2, -3): how many rows it has.");
    ship(1);
    yes(x.claim(0));
    int[] n = {1, 129600, 2, 129599, 1};
    int[] why = {0, 59, -2, -3, -2};
    for (int i = 0; i < 5; i++) {
      is(x.tell(n[i], why[i]), i + 1);
      due(x.status(8), i + 1);
    }
    open(1, 0, 90);
    yes(x.claim(1));
    is(x.tell(129600, -2), 1);
    is(x.check(259200, LOW), NONE);
    says("33: Refused: other numbers (1), no claim (2)");
    no(x.tell(1, 0), 2);
    ship(1);
    no(x.tell(1, 0), 2);
    yes(x.claim(0));
    for (int bad : new int[] {0, -1, 129601, LEAST_INT, MOST_INT}) no(x.tell(bad, 0), 1);
    for (int bad : new int[] {-1, -4, 60, LEAST_INT, MOST_INT}) no(x.tell(1, bad), 1);
    due(x.status(8), 0);
    is(x.tell(1, 0), 1);
    says("33: Refused: 500 rows (5).");
    x.contract();
    x.port(0, 0, 1);
    x.event(0, 0, ARRIVED);
    x.event(0, 0, NOTICE);
    x.claim(0);
    for (int i = 1; i <= 499; i++) due(x.tell(1, -2), i);
    is(x.tell(2, -2), 500);
    no(x.tell(1, -2), 5);
    due(x.status(8), 500);
    due(x.check(0, LOW), 501);
  }

  /** PORT 0 with minutes 0 .. 59 told by PLACE 1, then 100 by PLACE 0, 1290 by none, and 1430 that are UNKNOWN. */
  private static void claimed() {
    ship(2);
    allow(0, 0, 100);
    term(1, EXCEPT, HOURS, 0, 60);
    is(x.tear(0, 1, 10), 0);
    yes(x.claim(0));
  }
  private static final int LOW_HALVES = 2 * (100 + 1290), HIGH_HALVES = LOW_HALVES + 2 * 1430;

  private static void tellAll() {
    is(x.tell(50, 1), 1);
    is(x.tell(10, 1), 2);
    is(x.tell(100, 0), 3);
    is(x.tell(1290, -2), 4);
    is(x.tell(1430, -3), 5);
  }

  private static void checkRight() {
    says("34: NONE if each why is right, and there are just as many, and the HALVES of them are so many");
    claimed();
    // LOW tells the first ten minutes of DAY 1 by the EXCEPT no more: LIMIT is come to.
    tellAll();
    is(x.check(LOW_HALVES, LOW), NONE);
    is(x.check(HIGH_HALVES, HIGH), NONE);
    claimed();
    tellAll();
    is(x.check(LOW_HALVES, LOW), NONE);
    says("34: else -2: the HALVES.");
    claimed();
    tellAll();
    for (int other : new int[] {LOW_HALVES - 1, LOW_HALVES + 1, 0, -1, HIGH_HALVES, LEAST_INT, MOST_INT}) is(x.check(other, LOW), -2);
    is(x.check(LOW_HALVES, HIGH), -2);
  }

  private static void checkWrong() {
    says("34: else the first minute of the LOG that is told otherwise");
    claimed();
    is(x.tell(1, 0), 1);
    is(x.check(0, LOW), 0);
    claimed();
    is(x.tell(61, 1), 1);
    is(x.check(0, LOW), 60);
    claimed();
    is(x.tell(59, 1), 1);
    is(x.tell(1, 0), 2);
    is(x.check(0, LOW), 59);
    claimed();
    is(x.tell(60, 1), 1);
    is(x.tell(100, 0), 2);
    is(x.tell(1291, -2), 3);
    is(x.check(LOW_HALVES, LOW), 1450);
    // Of the LOG: its minutes may begin later.
    yes(x.office(0, 30, 1440, 10));
    yes(x.claim(0));
    is(x.tell(20, 1), 1);
    is(x.tell(1, 1), 2);
    is(x.check(0, LOW), 60);
    says("34: or is told by no row");
    claimed();
    is(x.check(0, LOW), 0);
    is(x.tell(1, 1), 1);
    is(x.check(0, LOW), 1);
    is(x.tell(59, 1), 2);
    is(x.check(0, LOW), 60);
    is(x.tell(100, 0), 3);
    is(x.tell(1290, -2), 4);
    is(x.tell(1429, -3), 5);
    is(x.check(LOW_HALVES, LOW), 2879);
    is(x.tell(1, -3), 6);
    is(x.check(LOW_HALVES, LOW), NONE);
    yes(x.office(0, 30, 1440, 10));
    yes(x.claim(0));
    is(x.check(0, LOW), 40);
  }

  private static void checkMore() {
    says("34: or END, if more are told");
    claimed();
    tellAll();
    is(x.tell(1, -3), 6);
    is(x.check(LOW_HALVES, LOW), 2880);
    claimed();
    is(x.tell(60, 1), 1);
    is(x.tell(100, 0), 2);
    is(x.tell(1290, -2), 3);
    is(x.tell(1431, -3), 4);
    is(x.check(LOW_HALVES, LOW), 2880);
    yes(x.event(0, 160, ENDED));
    is(x.check(200, LOW), 160);
    yes(x.claim(0));
    is(x.tell(60, 1), 1);
    is(x.tell(100, 0), 2);
    is(x.check(200, LOW), NONE);
    is(x.tell(129600, 0), 3);
    is(x.check(200, LOW), 160);
    // END is BEGIN: no minute, and one is told.
    yes(x.event(0, 0, ENDED));
    yes(x.claim(0));
    is(x.check(0, LOW), NONE);
    is(x.check(1, LOW), -2);
    is(x.tell(1, 0), 1);
    is(x.check(0, LOW), 0);
    yes(x.office(0, 0, 1440, 160));
    is(x.check(0, LOW), 160);
    says("34: A PORT that does not COUNT has no minute, and END 0.");
    claimed();
    yes(x.office(0, 0, 1440, 2880));
    is(x.check(0, LOW), NONE);
    is(x.check(1, LOW), -2);
    is(x.tell(1, -2), 1);
    is(x.check(0, LOW), 0);
    yes(x.office(0, 0, 0, 0));
    is(x.check(0, LOW), 0);
    yes(x.claim(0));
    is(x.check(0, LOW), NONE);
  }

  private static void checkOfGroup() {
    says("34: The claim against the PORT's minutes, in order");
    claimed();
    open(1, 0, 1);
    yes(x.together(3));
    yes(x.amount(0, 0, 0));
    yes(x.claim(1));
    is(x.tell(1440, -2), 1);
    is(x.check(2880, LOW), NONE);
    // By the sums of its GROUP, LIMIT 4: one minute of each PORT behind 0 .. 59 that do not count.
    yes(x.amount(0, 0, 1));
    yes(x.claim(1));
    is(x.tell(60, 1), 1);
    is(x.tell(1, 0), 2);
    is(x.tell(1379, -2), 3);
    is(x.check(2760, LOW), NONE);
    yes(x.together(0));
    is(x.check(2760, LOW), NONE);
    yes(x.amount(0, 0, 2));
    is(x.check(2760, LOW), 61);
    yes(x.offset(0, 1000));
    yes(x.together(3));
    is(x.check(2760, LOW), 61);
    says("34: Refused (2), answering -4, without a claim, or if its PORT is no more open.");
    due(x.check(0, LOW), -4);
    due(x.status(0), 2);
    claimed();
    is(x.check(0, LOW), 0);
    open(1, 0, 1);
    yes(x.close(1));
    is(x.check(0, LOW), 0);
    yes(x.close(0));
    due(x.check(0, LOW), -4);
    due(x.status(0), 2);
    due(x.status(2), 1);
    due(x.check(0, HIGH), -4);
    due(x.status(2), 2);
    open(0, 0, 1);
    is(x.check(0, LOW), 0);
  }

  // ---- 35 to 37

  private static void image() {
    says("35: All is kept as it is (one image): true.");
    yes(x.image());
    x.contract();
    yes(x.back());
    due(x.status(6), 0);
    no(x.kind(0, 0), 2);
    ship(2);
    allow(0, 0, 10);
    yes(x.image());
    yes(x.amount(0, 0, 20));
    yes(x.image());
    yes(x.amount(0, 0, 30));
    yes(x.back());
    is(x.told(0, ALLOWED), 20);
    yes(x.back());
    is(x.told(0, ALLOWED), 20);
    says("35: the claim, too");
    ship(1);
    yes(x.image());
    yes(x.claim(0));
    is(x.tell(7, -2), 1);
    yes(x.back());
    due(x.check(0, LOW), -4);
    no(x.tell(1, 0), 2);
    due(x.status(8), 0);
    yes(x.claim(0));
    is(x.tell(7, -2), 1);
    yes(x.image());
    is(x.tell(7, -3), 2);
    open(1, 0, 1);
    yes(x.claim(1));
    yes(x.back());
    due(x.status(8), 1);
    is(x.check(0, LOW), 7);
    yes(x.close(0));
    yes(x.back());
    is(x.check(0, LOW), 7);
    says("35: not status()");
    no(x.kind(0, 0), 2);
    yes(x.image());
    no(x.kind(0, 60), 1);
    no(x.kind(0, 0), 2);
    yes(x.back());
    due(x.status(0), 0);
    due(x.status(1), 1);
    due(x.status(2), 2);
  }

  private static void back() {
    says("36: All is as it was at the latest image() (which stays): true.");
    laden();
    long[] was = look();
    yes(x.image());
    for (int round = 0; round < 2; round++) {
      x.contract();
      yes(x.heading(0, 0, 1));
      term(1, EXCEPT, ALL, 0, 0);
      term(2, EXCEPT, ALL, 0, 0);
      yes(x.together(0));
      yes(x.day(0, 1, true));
      is(x.free(0, 2, false), true);
      yes(x.tons(0, 1));
      yes(x.office(0, 0, 0, 0));
      yes(x.offset(0, 0));
      yes(x.rate(0, 0, 0));
      yes(x.rate(4, 0, 0));
      yes(x.event(0, 1440, RAIN));
      yes(x.event(1, 3, RAIN));
      if (round == 1) yes(x.port(0, 1, 2));
      if (round == 1) yes(x.close(1));
      yes(x.claim(0));
      is(x.tell(9, -3), 1);
      is(x.tell(9, -3), 2);
      yes(x.back());
      same(was);
    }
    is(x.free(0, 2, false), true);
    says("36: Refused (2) without one.");
    no(x.back(), 2);
    x.contract();
    no(x.back(), 2);
    due(x.status(6), 1);
    due(x.status(2), 2);
    yes(x.image());
    yes(x.back());
  }

  private static void status() {
    says("37: What 0 the REASON of the latest call but status() (0: it was not refused)");
    due(x.status(0), 0);
    x.kind(0, 0);
    due(x.status(0), 2);
    for (int what = -1; what <= 9; what++) x.status(what);
    due(x.status(0), 2);
    x.contract();
    due(x.status(0), 0);
    x.kind(0, 60);
    due(x.status(0), 1);
    x.image();
    due(x.status(0), 0);
    says("37: 1 .. 5 how many calls were refused for each REASON");
    for (int i = 0; i < 2; i++) x.kind(0, 60);
    for (int i = 0; i < 3; i++) x.kind(0, 0);
    x.contract();
    term(0, ALLOW, ALL, 0, 0);
    for (int i = 0; i < 4; i++) x.headed(0, 0);
    yes(x.port(0, 0, 2));
    for (int i = 0; i < 5; i++) x.copy(0, 1, 0, 0, 2);
    for (int i = 1; i < 46; i++) x.contract();
    for (int why = 1; why <= 5; why++) due(x.status(why), why + 1);
    says("37: 6 CONTRACTS, 7 EVENTS of all PORTS, 8 rows of the claim (0 without)");
    for (int what = 6; what <= 8; what++) due(x.status(what), 0);
    ship(1);
    open(7, 0, 90);
    yes(x.event(7, 129599, ENDED));
    yes(x.claim(0));
    is(x.tell(1, 1), 1);
    is(x.tell(1, 1), 2);
    due(x.status(6), 1);
    due(x.status(7), 5);
    due(x.status(8), 2);
    yes(x.close(7));
    due(x.status(7), 2);
    says("37: NONE for another what.");
    for (int bad : new int[] {-1, 9, 10, LEAST_INT, MOST_INT}) due(x.status(bad), NONE);
  }

  public static void main(String[] args) {
    newObject();
    contract();
    term();
    termBounds();
    yields();
    amount();
    heading();
    strike();
    kind();
    headed();
    span();
    port();
    portAlone();
    close();
    event();
    day();
    tear();
    copy();
    copyAtFirst();
    copyMany();
    copyBeyond();
    copyWhenFull();
    copyFewer();
    copyBounds();
    free();
    tons();
    office();
    offset();
    rate();
    together();
    told();
    weight();
    state();
    minute();
    why();
    counts();
    by();
    sum();
    asIf();
    asOfGroup();
    claim();
    tell();
    checkRight();
    checkWrong();
    checkMore();
    checkOfGroup();
    image();
    back();
    status();
    finish();
  }
}
