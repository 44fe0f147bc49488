/** The document's section 'Terms' on GROUPS: each sentence that names a boundary case, at its boundaries. */
public final class GroupsTest extends Checks {

  /** CONTRACT 0 allows so many minutes; CONTRACT 1 holds nothing. PORTS 0 .. ports - 1 are open, PORT 0 alone with CONTRACT 0. */
  private static void ships(int ports, int allowed) {
    fresh();
    x.contract();
    x.contract();
    allowAside(allowed);
    for (int p = ports - 1; p >= 0; p--) open(p, p == 0 ? 0 : 1, 1);
    yes(x.together((1 << ports) - 1));
  }

  /** ONCE of the GROUP of PORT 0, and of each PORT the first minute that is OVER; CONTRACTS hold an ALWAYS at PLACE 58. */
  private static void over(int once, int... from) {
    is(x.sum(0, ONCE, LOW), once);
    for (int p = 0; p < from.length; p++) {
      yes(x.term(p == 0 ? 0 : 1, 58, ALWAYS, ALL, 0, 0));
      if (from[p] > 0) is(x.why(p, from[p] - 1, LOW), NEITHER);
      if (from[p] < 1440) is(x.why(p, from[p], LOW), 58);
      is(x.by(p, 58, LOW), 1440 - from[p]);
    }
  }

  private static void groups() {
    says("Together() tells which open PORTS are one GROUP; each other one is a GROUP of its own.");
    ships(3, 100);
    open(7, 0, 1);
    is(x.sum(2, LEAST, LOW), 0);
    is(x.sum(2, COUNTING, LOW), 3);
    is(x.sum(7, LEAST, LOW), 7);
    is(x.sum(7, COUNTING, LOW), 1);
    yes(x.together(2 + 128));
    int[] least = {0, 1, 2, 1};
    int[] port = {0, 1, 2, 7};
    for (int i = 0; i < 4; i++) {
      is(x.sum(port[i], LEAST, LOW), least[i]);
      is(x.sum(port[i], COUNTING, LOW), least[i] == 1 ? 2 : 1);
      is(x.sum(port[i], MANY, LOW), least[i] == 1 ? 2880 : 1440);
    }
  }

  private static void standing() {
    says("A PORT's minute m stands at OFFSET + m.");
    ship(1);
    allowAside(1);
    for (int offset : new int[] {0, 1, 1440, 1000000}) {
      yes(x.offset(0, offset));
      is(x.sum(0, ONCE, LOW), offset);
    }
    yes(x.office(0, 0, 1440, 1439));
    is(x.sum(0, ONCE, LOW), 1001439);
    open(0, 0, 90);
    yes(x.offset(0, 1000000));
    yes(x.amount(0, 59, 129600));
    is(x.sum(0, ONCE, LOW), 1129599);
  }

  private static void order() {
    says("The minutes of a GROUP's PORTS that COUNT go in the order of where they stand, of equal ones the least PORT first.");
    ships(3, 4);
    over(1, 2, 1, 1);
    yes(x.amount(0, 59, 5));
    over(1, 2, 2, 1);
    yes(x.amount(0, 59, 6));
    over(1, 2, 2, 2);
    yes(x.amount(0, 59, 7));
    over(2, 3, 2, 2);
    // One further, one behind all others.
    yes(x.offset(0, 1));
    yes(x.offset(1, 100000));
    yes(x.amount(0, 59, 2));
    over(1, 1, 0, 1);
    yes(x.amount(0, 59, 3));
    over(1, 1, 0, 2);
    yes(x.amount(0, 59, 2879));
    over(1439, 1439, 0, 1440);
    yes(x.amount(0, 59, 2880));
    over(1440, 1440, 0, 1440);
    yes(x.amount(0, 59, 2881));
    over(100000, 1440, 1, 1440);
    // The last minute of one stands where the first of the other does: the least PORT's goes first.
    yes(x.offset(0, 1439));
    yes(x.offset(2, 0));
    yes(x.amount(0, 59, 1440));
    over(1439, 1, 0, 1439);
    yes(x.amount(0, 59, 1441));
    over(1439, 1, 0, 1440);
  }

  private static void orderOfBegin() {
    says("in the order of where they stand: not of which minute it is");
    ships(2, 10);
    yes(x.office(1, 40, 1440, 0));
    yes(x.offset(1, 5));
    // PORT 1's first minute stands at 45.
    is(x.sum(0, ONCE, LOW), 9);
    yes(x.amount(0, 59, 45));
    is(x.sum(0, ONCE, LOW), 44);
    is(x.why(1, 40, LOW), NEITHER);
    yes(x.term(1, 0, HALF, ALL, 0, 0));
    is(x.why(1, 40, LOW), NEITHER);
    yes(x.amount(0, 59, 46));
    is(x.sum(0, ONCE, LOW), 45);
    is(x.why(1, 40, LOW), NEITHER);
    yes(x.amount(0, 59, 47));
    is(x.sum(0, ONCE, LOW), 46);
    is(x.why(1, 40, LOW), 0);
    is(x.why(1, 41, LOW), NEITHER);
    says("of equal ones the least PORT first: of those that have one there");
    ships(3, 1);
    yes(x.offset(0, 100000));
    yes(x.offset(1, 200000));
    yes(x.term(1, 0, HALF, MINUTES, 0, 1));
    yes(x.term(1, 58, ALWAYS, ALL, 0, 0));
    is(x.sum(0, ONCE, LOW), 1);
    is(x.why(2, 0, LOW), 0);
    is(x.why(2, 1, LOW), NEITHER);
    is(x.why(2, 2, LOW), 58);
    is(x.why(1, 0, LOW), 58);
  }

  private static void halves() {
    says("Each adds HALVES: 2 if it counts, 1 if half, 0 if not.");
    ships(2, 5000);
    is(x.sum(0, HALVES, LOW), 5760);
    term(0, HALF, MINUTES, 0, 10);
    is(x.sum(0, HALVES, LOW), 5750);
    is(x.counts(0, 0, 11, LOW), 12);
    term(0, EXCEPT, MINUTES, 0, 10);
    is(x.sum(1, HALVES, LOW), 5740);
    is(x.counts(0, 0, 11, LOW), 2);
    is(x.counts(1, 0, 11, LOW), 22);
  }

  private static void limit() {
    says("The GROUP's LIMIT is 2 * the sum of ALLOWED over all its PORTS that COUNT.");
    ships(2, 100);
    is(x.sum(1, LIMIT, LOW), 200);
    yes(x.term(1, 0, ALLOW, MINUTES, 0, 0));
    yes(x.amount(1, 0, 3));
    is(x.sum(0, LIMIT, LOW), 206);
    // Each PORT for itself, though the CONTRACT is the same.
    open(2, 1, 1);
    yes(x.together(7));
    is(x.sum(0, LIMIT, LOW), 212);
    yes(x.office(2, 0, 1440, 1440));
    is(x.sum(0, LIMIT, LOW), 206);
    yes(x.office(2, 0, 1440, 1439));
    is(x.sum(0, LIMIT, LOW), 212);
    yes(x.office(0, 0, 0, 0));
    is(x.sum(0, LIMIT, LOW), 12);
  }

  private static void isOver() {
    says("A minute is OVER if all minutes ahead of it in the GROUP have LIMIT HALVES or more together");
    ship(1);
    allowAside(1);
    term(58, ALWAYS, ALL, 0, 0);
    is(x.why(0, 0, LOW), NEITHER);
    is(x.why(0, 1, LOW), 58);
    // One HALF less than LIMIT: one minute more, with which it is more than LIMIT.
    term(0, HALF, MINUTES, 0, 1);
    is(x.why(0, 1, LOW), NEITHER);
    is(x.why(0, 2, LOW), 58);
    is(x.sum(0, HALVES, LOW), 1 + 2 + 2 * 1438);
    term(0, HALF, MINUTES, 0, 2);
    is(x.why(0, 1, LOW), 0);
    is(x.why(0, 2, LOW), 58);
    term(0, EXCEPT, MINUTES, 0, 1438);
    is(x.why(0, 1437, LOW), 0);
    is(x.why(0, 1438, LOW), NEITHER);
    is(x.why(0, 1439, LOW), 58);
    // Those behind LIMIT add nothing that could come to it again: it stays OVER.
    term(0, EXCEPT, MINUTES, 0, 0);
    yes(x.amount(0, 58, 1));
    is(x.by(0, 58, LOW), 1439);
    is(x.sum(0, HALVES, LOW), 2);
    says("so with LIMIT 0 each");
    ship(1);
    term(0, EXCEPT, ALL, 0, 0);
    term(58, ALWAYS, ALL, 0, 0);
    is(x.why(0, 0, LOW), 58);
    is(x.by(0, 58, LOW), 1440);
    yes(x.strike(0, 58));
    is(x.by(0, NEITHER, LOW), 1440);
    is(x.by(0, 0, LOW), 0);
    is(x.sum(0, HALVES, LOW), 2880);
  }

  private static void unknown() {
    says("A minute that is UNKNOWN has no TERM: LOW it adds 0, HIGH it adds 2");
    ship(1);
    allowAside(1000);
    term(0, EXCEPT, ALL, 0, 0);
    is(x.tear(0, 0, 1400), 0);
    for (boolean high : new boolean[] {LOW, HIGH}) {
      is(x.why(0, 1399, high), 0);
      is(x.why(0, 1400, high), GAP);
      is(x.why(0, 1439, high), GAP);
      is(x.minute(0, 1400, high), 3);
      is(x.by(0, GAP, high), 40);
      is(x.sum(0, MANY, high), 1440);
    }
    is(x.sum(0, HALVES, LOW), 0);
    is(x.sum(0, HALVES, HIGH), 80);
    is(x.counts(0, 1399, 1401, LOW), 0);
    is(x.counts(0, 1399, 1401, HIGH), 2);
    // Also where it is OVER and ALWAYS would not count.
    yes(x.amount(0, 59, 0));
    term(1, ALWAYS, ALL, 0, 0);
    yes(x.amount(0, 1, 1));
    is(x.sum(0, HALVES, LOW), 0);
    is(x.sum(0, HALVES, HIGH), 80);
    is(x.why(0, 1400, HIGH), GAP);
  }

  private static void lowAndHigh() {
    says("all is told twice, LOW and HIGH, each by its own sums");
    ship(3);
    allowAside(100);
    term(0, EXCEPT, HOURS, 0, 60);
    yes(x.day(0, 1, false));
    is(x.tear(0, 0, 120), 0);
    is(x.sum(0, ONCE, LOW), 2880 + 60 + 39);
    is(x.sum(0, ONCE, HIGH), 159);
    is(x.sum(0, HALVES, LOW), 120 + 2 * 1380);
    is(x.sum(0, HALVES, HIGH), 120 + 2 * 1320 + 2 * 2880);
    is(x.sum(0, OWED, LOW), 120 + 2 * 1380 - 200);
    is(x.sum(0, OWED, HIGH), 120 + 2 * 1320 + 2 * 2880 - 200);
    is(x.why(0, 2880, LOW), 0);
    is(x.why(0, 2880, HIGH), NEITHER);
    is(x.as(0, 0, NONE, LOW), 240 + 2880 - 200);
    is(x.as(0, 0, NONE, HIGH), 3 * 2880 - 200);
  }

  private static void asked() {
    says("TERMS that are asked: if it is not OVER, all but ALWAYS; if it is OVER, ALWAYS alone; of these those whose SPAN has it.");
    ship(1);
    allowAside(100);
    int[] kinds = {ALLOW, EXCEPT, UNLESS, HALF};
    term(57, ALWAYS, MINUTES, 50, 300);
    for (int kind : kinds) {
      term(0, kind, MINUTES, 10, 50);
      yes(x.amount(0, 59, 100 - adds(kind)));
      is(x.why(0, 9, LOW), NEITHER);
      is(x.why(0, 10, LOW), 0);
      is(x.why(0, 49, LOW), 0);
      is(x.why(0, 50, LOW), NEITHER);
      is(x.why(0, 99, LOW), NEITHER);
      is(x.why(0, 100, LOW), 57);
      is(x.why(0, 299, LOW), 57);
      is(x.why(0, 300, LOW), NEITHER);
      term(0, kind, MINUTES, 200, 1440);
      yes(x.amount(0, 59, 100));
      is(x.by(0, 0, LOW), 0);
    }
    // A HEADING is no TERM.
    yes(x.heading(0, 58, 0));
    is(x.why(0, 100, LOW), 57);
  }
  /** By how many minutes fewer than 40 do 40 minutes of this KIND, without began, count. */
  private static int adds(int kind) { return kind == ALLOW ? 0 : kind == HALF ? 20 : 40; }

  private static void yieldsToAnother() {
    says("A TERM YIELDS to another one of them if its YIELDS have the bit of that one's KIND.");
    int[] kinds = {ALLOW, EXCEPT, UNLESS, HALF};
    for (int mine : kinds) {
      ship(1);
      allowAside(1000);
      term(1, mine, ALL, 0, 0);
      for (int other : kinds) {
        term(0, other, ALL, 0, 0);
        for (int bit = 0; bit < 5; bit++) {
          x.yields(0, 1, 1 << bit);
          is(x.why(0, 0, LOW), bit == other ? 0 : 1);
        }
      }
    }
    ship(1);
    term(0, ALWAYS, ALL, 0, 0);
    term(1, ALWAYS, ALL, 0, 0);
    term(2, EXCEPT, ALL, 0, 0);
    for (int bit = 0; bit < 5; bit++) {
      x.yields(0, 1, 1 << bit);
      is(x.why(0, 0, LOW), bit == ALWAYS ? 0 : 1);
    }
    says("A TERM YIELDS to another one: not to itself");
    for (int kind : kinds) {
      ship(1);
      allowAside(1000);
      term(0, kind == EXCEPT ? HALF : EXCEPT, ALL, 0, 0);
      term(1, kind, ALL, 0, 0);
      x.yields(0, 1, 1 << kind);
      is(x.why(0, 0, LOW), 1);
      term(0, kind, ALL, 0, 0);
      is(x.why(0, 0, LOW), 0);
    }
    says("to another one of them: of those that are asked");
    ship(1);
    allowAside(1000);
    term(0, EXCEPT, MINUTES, 10, 20);
    term(1, HALF, ALL, 0, 0);
    x.yields(0, 1, 31);
    term(2, ALWAYS, ALL, 0, 0);
    yes(x.heading(0, 3, 0));
    is(x.why(0, 9, LOW), 1);
    is(x.why(0, 10, LOW), 0);
    is(x.why(0, 19, LOW), 0);
    is(x.why(0, 20, LOW), 1);
    yes(x.amount(0, 59, 0));
    x.yields(0, 2, 31);
    is(x.why(0, 10, LOW), 2);
    term(1, ALWAYS, ALL, 0, 0);
    is(x.why(0, 10, LOW), 1);
  }

  private static void latest() {
    says("The one that tells the minute is the latest (of the greatest PLACE) that YIELDS to none of the others");
    ship(1);
    allowAside(1000);
    for (int place : new int[] {57, 0, 58, 1}) term(place, HALF, ALL, 0, 0);
    term(30, EXCEPT, ALL, 0, 0);
    is(x.why(0, 0, LOW), 58);
    x.yields(0, 58, 1 << EXCEPT);
    is(x.why(0, 0, LOW), 57);
    x.yields(0, 57, 1 << HALF);
    is(x.why(0, 0, LOW), 30);
    x.yields(0, 30, 1 << HALF);
    is(x.why(0, 0, LOW), 1);
    x.yields(0, 1, 1 << EXCEPT);
    is(x.why(0, 0, LOW), 0);
    says("if each YIELDS to one, the latest.");
    ship(1);
    allowAside(1000);
    for (int place : new int[] {0, 20, 58}) {
      term(place, HALF, ALL, 0, 0);
      x.yields(0, place, 1 << HALF);
    }
    is(x.why(0, 0, LOW), 58);
    yes(x.strike(0, 58));
    is(x.why(0, 0, LOW), 20);
    // Alone, it YIELDS to none.
    yes(x.strike(0, 20));
    is(x.why(0, 0, LOW), 0);
    says("Without any it counts.");
    ship(1);
    allowAside(100);
    is(x.why(0, 0, LOW), NEITHER);
    is(x.minute(0, 0, LOW), 2);
    is(x.why(0, 100, LOW), NEITHER);
    is(x.minute(0, 100, LOW), 2);
    is(x.by(0, NEITHER, LOW), 1440);
  }

  private static void once() {
    says("ONCE is where the minute stands with which the HALVES first come to LIMIT");
    ship(1);
    for (int minutes : new int[] {1, 2, 719, 1439, 1440}) {
      allowAside(minutes);
      is(x.sum(0, ONCE, LOW), minutes - 1);
    }
    allowAside(10);
    term(0, HALF, MINUTES, 0, 1);
    is(x.sum(0, ONCE, LOW), 10);
    term(0, EXCEPT, MINUTES, 10, 20);
    is(x.sum(0, ONCE, LOW), 9);
    term(0, EXCEPT, MINUTES, 9, 20);
    is(x.sum(0, ONCE, LOW), 20);
    // First: behind it ALWAYS may take nothing back.
    term(1, ALWAYS, ALL, 0, 0);
    yes(x.amount(0, 1, 1));
    is(x.sum(0, ONCE, LOW), 20);
    says("with LIMIT 0 one less than where the GROUP's first minute stands.");
    ship(1);
    is(x.sum(0, ONCE, LOW), -1);
    yes(x.offset(0, 1));
    is(x.sum(0, ONCE, LOW), 0);
    yes(x.offset(0, 500));
    yes(x.office(0, 0, 1440, 40));
    is(x.sum(0, ONCE, LOW), 539);
    is(x.tear(0, 0, 40), 0);
    is(x.sum(0, ONCE, HIGH), 539);
    open(1, 0, 1);
    yes(x.offset(1, 530));
    yes(x.together(3));
    is(x.sum(0, ONCE, LOW), 529);
    // Not where one stands that has no minute.
    yes(x.event(1, 0, ENDED));
    is(x.sum(0, ONCE, LOW), 539);
    says("There is none without minutes, or if they do not come to it.");
    ship(1);
    allowAside(1440);
    is(x.sum(0, ONCE, LOW), 1439);
    allowAside(1441);
    is(x.sum(0, ONCE, LOW), NONE);
    allowAside(1440);
    term(0, HALF, MINUTES, 1439, 1440);
    is(x.sum(0, ONCE, LOW), NONE);
    yes(x.offset(0, 100));
    is(x.sum(0, ONCE, LOW), NONE);
    allowAside(0);
    is(x.sum(0, ONCE, LOW), 99);
    yes(x.event(0, 0, ENDED));
    is(x.sum(0, ONCE, LOW), NONE);
    yes(x.office(0, 0, 0, 0));
    is(x.sum(0, ONCE, LOW), NONE);
  }

  private static void owed() {
    says("OWED: what the HALVES are above LIMIT");
    ship(1);
    int[] allowed = {0, 1, 1439, 1440, 1441};
    int[] owed = {2880, 2878, 2, 0, 0};
    for (int i = 0; i < 5; i++) {
      allowAside(allowed[i]);
      is(x.sum(0, OWED, LOW), owed[i]);
      is(x.sum(0, SAVED, LOW), 0);
    }
    allowAside(1);
    term(0, HALF, MINUTES, 0, 1);
    is(x.sum(0, OWED, LOW), 2877);
    says("SAVED: what they are below it, if each PORT of the GROUP that COUNTS has an ended at its END, and one COUNTS; else 0.");
    ship(1);
    allowAside(100);
    yes(x.event(0, 99, ENDED));
    is(x.sum(0, SAVED, LOW), 2);
    is(x.sum(0, OWED, LOW), 0);
    yes(x.event(0, 50, ENDED));
    is(x.sum(0, SAVED, LOW), 100);
    is(x.tear(0, 0, 99), 1);
    is(x.sum(0, SAVED, LOW), 100);
    is(x.tear(0, 0, 50), 1);
    is(x.sum(0, SAVED, LOW), 0);
    is(x.told(0, END), 1440);
    yes(x.day(0, 0, true));
    yes(x.event(0, 0, ARRIVED));
    yes(x.event(0, 0, NOTICE));
    yes(x.event(0, 100, ENDED));
    is(x.sum(0, SAVED, LOW), 0);
    is(x.sum(0, OWED, LOW), 0);
    allowAside(101);
    is(x.sum(0, SAVED, LOW), 2);
    // Each PORT that COUNTS; one that does not wants none.
    open(1, 0, 1);
    yes(x.together(3));
    allowAside(5000);
    is(x.sum(0, SAVED, LOW), 0);
    yes(x.event(1, 10, ENDED));
    is(x.sum(0, SAVED, LOW), 2 * (10000 - 100 - 10));
    yes(x.office(1, 0, 1440, 11));
    is(x.sum(0, SAVED, LOW), 0);
    yes(x.office(1, 0, 1440, 1440));
    is(x.sum(0, SAVED, LOW), 2 * (5000 - 100));
    yes(x.office(0, 0, 1440, 1440));
    is(x.sum(0, SAVED, LOW), 0);
    is(x.sum(0, COUNTING, LOW), 0);
  }

  private static void money() {
    says("MONEY: OWED * RATE / 2880, less SAVED * BACK / 2880, each cut");
    ship(1);
    allowAside(1);
    int[] rates = {0, 1, 2, 2880, 1000000000};
    long[] money = {0, 0, 1, 2878, 2878L * 1000000000 / 2880};
    for (int i = 0; i < 5; i++) {
      yes(x.rate(0, rates[i], 1000000000));
      is(x.sum(0, MONEY, LOW), money[i]);
    }
    yes(x.event(0, 0, ENDED));
    yes(x.amount(0, 59, 1439));
    is(x.sum(0, SAVED, LOW), 2878);
    for (int i = 0; i < 5; i++) {
      yes(x.rate(0, 1000000000, rates[i]));
      is(x.sum(0, MONEY, LOW), -money[i]);
    }
    // The greatest that can be saved: 8 PORTS, 60 ALLOWs of 6000000 minutes each.
    for (int place = 0; place < 60; place++) {
      x.term(0, place, ALLOW, 0, 0, 0);
      x.amount(0, place, -1);
    }
    for (int p = 0; p < 8; p++) {
      open(p, 0, 1);
      yes(x.tons(p, 100000000L));
      yes(x.event(p, 0, ENDED));
    }
    yes(x.rate(0, 0, 1000000000L));
    yes(x.together(255));
    is(x.sum(7, SAVED, LOW), 5760000000L);
    is(x.sum(7, MONEY, LOW), -2000000000000000L);
    says("with RATE and BACK of the GROUP's least PORT.");
    ships(3, 0);
    yes(x.rate(0, 5760, 0));
    yes(x.rate(1, 2880, 0));
    yes(x.rate(2, 0, 0));
    is(x.sum(2, MONEY, LOW), 2 * 3 * 2880);
    is(x.sum(0, MONEY, LOW), 2 * 3 * 2880);
    yes(x.together(6));
    is(x.sum(2, MONEY, LOW), 2 * 2880);
    // Though it be one that does not COUNT.
    yes(x.office(1, 0, 0, 0));
    is(x.sum(2, MONEY, LOW), 2880);
  }

  public static void main(String[] args) {
    groups();
    standing();
    order();
    orderOfBegin();
    halves();
    limit();
    isOver();
    unknown();
    lowAndHigh();
    asked();
    yieldsToAnother();
    latest();
    once();
    owed();
    money();
    finish();
  }
}
