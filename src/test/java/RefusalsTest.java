/** The document's REFUSALS and REASONS: for each call what there can't be, what is not there, and that nothing changes. */
public final class RefusalsTest extends Checks {
  private static final int[] FAR = {-1, -2, LEAST_INT, MOST_INT};

  // ---- calls by number, each with arguments that are fine but for those given

  private static final int PLACE_CALLS = 8;
  private static void onPlace(int call, int c, int place, int why) {
    switch (call) {
      case 0: no(x.term(c, place, ALLOW, ALL, 0, 0), why); break;
      case 1: no(x.yields(c, place, 1), why); break;
      case 2: no(x.amount(c, place, 1), why); break;
      case 3: no(x.heading(c, place, 1), why); break;
      case 4: no(x.strike(c, place), why); break;
      case 5: no(x.kind(c, place), why); break;
      case 6: no(x.headed(c, place), why); break;
      default: no(x.span(c, place, 0), why); break;
    }
  }

  private static final int PORT_CALLS = 13;
  private static void onPort(int call, int p, int why) {
    switch (call) {
      case 0: no(x.close(p), why); break;
      case 1: no(x.tons(p, 1), why); break;
      case 2: no(x.office(p, 1, 2, 3), why); break;
      case 3: no(x.offset(p, 1), why); break;
      case 4: no(x.rate(p, 1, 1), why); break;
      case 5: no(x.told(p, DAYS), why); break;
      case 6: no(x.weight(p, 0), why); break;
      case 7: no(x.counts(p, 0, 1, LOW), why); break;
      case 8: no(x.by(p, 0, LOW), why); break;
      case 9: no(x.sum(p, HALVES, LOW), why); break;
      case 10: no(x.as(p, 0, NONE, LOW), why); break;
      case 11: no(x.claim(p), why); break;
      default: onDay(0, p, 0, why); onMinute(0, p, 0, why); break;
    }
  }

  private static final int DAY_CALLS = 6;
  private static void onDay(int call, int p, int d, int why) {
    switch (call) {
      case 0: no(x.day(p, d, true), why); break;
      case 1: no(x.day(p, d, false), why); break;
      case 2: no(x.tear(p, d, 0), why); break;
      case 3: no(x.free(p, d, true), why); break;
      case 4: no(x.copy(p, d, 0, 0, 1), why); break;
      default: no(x.copy(0, 0, p, d, 1), why); break;
    }
  }

  private static final int MINUTE_CALLS = 4;
  private static void onMinute(int call, int p, int m, int why) {
    switch (call) {
      case 0: no(x.event(p, m, BEGAN), why); break;
      case 1: no(x.state(p, m), why); break;
      case 2: no(x.minute(p, m, LOW), why); break;
      default: no(x.why(p, m, HIGH), why); break;
    }
  }

  // ---- what there can't be, and what is not there

  private static void contractsAndPlaces() {
    says("A call is refused for a CONTRACT, PLACE that there can't be (1), a CONTRACT that is not made (2)");
    for (int call = 0; call < PLACE_CALLS; call++) {
      fresh();
      onPlace(call, 0, 0, 2);
      onPlace(call, 39, 59, 2);
      onPlace(call, 0, 60, 1);
      onPlace(call, 40, 0, 1);
      onPlace(call, 40, 60, 1);
      x.contract();
      yes(x.heading(0, 0, 1));
      onPlace(call, 1, 0, 2);
      onPlace(call, 0, 60, 1);
      onPlace(call, 40, 0, 1);
      for (int far : FAR) {
        onPlace(call, far, 0, 1);
        onPlace(call, 0, far, 1);
        onPlace(call, 1, far, 1);
        onPlace(call, far, far, 1);
      }
    }
    fresh();
    no(x.port(0, 0, 1), 2);
    no(x.port(0, 39, 1), 2);
    no(x.port(0, 40, 1), 1);
    x.contract();
    for (int far : FAR) no(x.port(0, far, 1), 1);
    no(x.port(0, 1, 1), 2);
    // as() tells two PLACES.
    ship(1);
    for (int far : new int[] {-1, 60, LEAST_INT, MOST_INT}) no(x.as(0, far, 0, LOW), 1);
    for (int far : new int[] {-2, 60, LEAST_INT, MOST_INT}) no(x.as(0, 0, far, LOW), 1);
    is(x.as(0, 59, 59, LOW), 2880);
    is(x.as(0, 59, NONE, LOW), 2880);
  }

  private static void ports() {
    says("a PORT that there can't be (1), a PORT that is not open (2)");
    for (int call = 0; call < PORT_CALLS; call++) {
      fresh();
      onPort(call, 0, 2);
      onPort(call, 7, 2);
      onPort(call, 8, 1);
      for (int far : FAR) onPort(call, far, 1);
      ship(1);
      onPort(call, 1, 2);
      onPort(call, 8, 1);
      yes(x.close(0));
      onPort(call, 0, 2);
    }
    x.contract();
    no(x.port(8, 0, 1), 1);
    for (int far : FAR) no(x.port(far, 0, 1), 1);
  }

  private static void days() {
    says("a DAY that there can't be (1)");
    for (int call = 0; call < DAY_CALLS; call++) {
      ship(3);
      open(1, 0, 2);
      onDay(call, 1, 2, 1);
      onDay(call, 1, 89, 1);
      onDay(call, 1, 90, 1);
      for (int far : FAR) onDay(call, 1, far, 1);
      onDay(call, 2, 2, 2);
      onDay(call, 2, 89, 2);
      onDay(call, 2, 90, 1);
      onDay(call, 2, -1, 1);
      onDay(call, 8, 0, 1);
      is(x.told(1, EVENTS), 2);
    }
    says("a DAY that is missing (2)");
    ship(3);
    yes(x.day(0, 1, false));
    no(x.tear(0, 1, 0), 2);
    no(x.tear(0, 1, 1439), 2);
    no(x.free(0, 1, true), 2);
    no(x.free(0, 1, false), 2);
    // One that is TORN from its first minute on is there.
    is(x.tear(0, 2, 0), 0);
    is(x.free(0, 2, true), false);
    is(x.tear(0, 2, 5), 0);
    // What day() and copy() ask for can be a DAY that is missing.
    yes(x.day(0, 1, false));
    is(x.copy(0, 1, 0, 1, 1), 1);
    yes(x.day(0, 1, true));
    is(x.free(0, 1, true), false);
  }

  private static void minutes() {
    says("a minute that there can't be (1)");
    for (int call = 0; call < MINUTE_CALLS; call++) {
      ship(2);
      onMinute(call, 0, 2880, 1);
      onMinute(call, 0, 129599, 1);
      onMinute(call, 0, 129600, 1);
      for (int far : FAR) onMinute(call, 0, far, 1);
      onMinute(call, 1, 129599, 2);
      onMinute(call, 1, 129600, 1);
      onMinute(call, 1, -1, 1);
      is(x.told(0, EVENTS), 2);
    }
    says("a minute of the LOG's end that there can be");
    ship(2);
    yes(x.event(0, 2879, BEGAN));
    is(x.state(0, 2879), 1);
    is(x.minute(0, 2879, LOW), 2);
    is(x.why(0, 2879, LOW), NEITHER);
  }

  private static void kinds() {
    says("a KIND, EVENT's KIND, SORT that there can't be (1)");
    ship(1);
    for (int far : FAR) {
      no(x.term(0, 0, far, ALL, 0, 0), 1);
      no(x.term(0, 0, ALLOW, far, 0, 0), 1);
      no(x.event(0, 0, far), 1);
    }
    no(x.term(0, 0, 5, ALL, 0, 0), 1);
    no(x.term(0, 0, ALLOW, 5, 0, 0), 1);
    no(x.event(0, 0, 8), 1);
    is(x.kind(0, 0), 6);
    yes(x.term(0, 0, 4, 4, 0, 0));
    yes(x.term(0, 0, 0, 0, 0, 0));
    yes(x.event(0, 0, 7));
    yes(x.event(0, 0, 0));
  }

  private static void leastOfSeveral() {
    says("of several the least");
    fresh();
    // 1 and 2: no such number, and a CONTRACT that is not made or a PORT that is not open.
    no(x.term(0, 0, 5, 0, 0, 0), 1);
    no(x.term(0, 0, 0, 1, 1441, 0), 1);
    no(x.yields(0, 0, 32), 1);
    no(x.amount(0, 0, 1000001), 1);
    no(x.span(0, 0, 5), 1);
    no(x.port(0, 0, 91), 1);
    no(x.port(8, 0, 1), 1);
    no(x.event(0, 0, 8), 1);
    no(x.tear(0, 0, 1440), 1);
    no(x.copy(0, 0, 0, 0, 91), 1);
    no(x.copy(0, 0, 8, 0, 1), 1);
    no(x.copy(0, 90, 0, 0, 1), 1);
    no(x.tons(0, -1), 1);
    no(x.office(0, 0, 1441, 0), 1);
    no(x.offset(0, 1000001), 1);
    no(x.rate(0, 0, -1), 1);
    no(x.together(256 + 1), 1);
    no(x.told(0, 8), 1);
    no(x.weight(0, 2), 1);
    no(x.counts(0, -1, 0, LOW), 1);
    no(x.by(0, 60, LOW), 1);
    no(x.sum(0, 9, LOW), 1);
    no(x.as(0, 60, 0, LOW), 1);
    no(x.tell(0, 0), 1);
    no(x.tell(1, -1), 1);
    // 1 and 3: a HEADING; 1 and 2: nothing there.
    ship(1);
    no(x.yields(0, 0, 32), 1);
    no(x.amount(0, 0, 1000001), 1);
    no(x.span(0, 0, 5), 1);
    yes(x.heading(0, 0, 1));
    no(x.yields(0, 0, 32), 1);
    no(x.amount(0, 0, -1000001), 1);
    no(x.span(0, 0, -1), 1);
    // 1 and 2: a DAY that is missing, a minute that is UNKNOWN.
    yes(x.day(0, 0, false));
    no(x.tear(0, 0, 1440), 1);
    no(x.event(0, 0, 8), 1);
    // 1 and 5, 2 and 5: full.
    full();
    no(x.event(0, 0, 8), 1);
    no(x.event(0, 129600, 0), 1);
    no(x.event(2, 0, 0), 2);
    is(x.tear(1, 10, 5), 0);
    no(x.event(1, 14405, 0), 2);
    no(x.event(1, 14404, 0), 5);
    fresh();
    x.contract();
    x.port(0, 0, 1);
    x.claim(0);
    for (int i = 1; i <= 500; i++) due(x.tell(1, 0), i);
    no(x.tell(1, 60), 1);
    no(x.tell(0, 0), 1);
    no(x.tell(1, 0), 5);
  }

  // ---- nothing changes

  /** Refused calls of each method that changes something; none of them may. */
  private static void refusedCalls() {
    no(x.term(0, 0, 5, 0, 0, 0), 1);
    no(x.term(0, 0, 1, 1, 1441, 0), 1);
    no(x.yields(0, 0, 32), 1);
    no(x.yields(0, 1, 3), 3);
    no(x.yields(0, 2, 3), 2);
    no(x.amount(0, 0, 1000001), 1);
    no(x.amount(0, 1, 5), 3);
    no(x.amount(0, 2, 5), 2);
    no(x.heading(0, 60, 5), 1);
    no(x.heading(1, 0, 5), 2);
    no(x.strike(0, 2), 2);
    no(x.strike(0, -1), 1);
    no(x.port(0, 0, 0), 1);
    no(x.port(0, 1, 1), 2);
    no(x.port(1, 0, 91), 1);
    no(x.close(2), 2);
    no(x.event(0, 0, 8), 1);
    no(x.event(0, 1440, 0), 2);
    no(x.day(0, 3, false), 1);
    no(x.tear(0, 0, 1440), 1);
    no(x.tear(0, 1, 0), 2);
    no(x.copy(0, 0, 1, 2, 1), 1);
    no(x.copy(0, 3, 1, 0, 1), 1);
    no(x.copy(0, 0, 1, 0, 91), 1);
    no(x.copy(0, 0, 2, 0, 1), 2);
    no(x.free(0, 3, true), 1);
    no(x.free(0, 1, true), 2);
    no(x.tons(0, 100000001L), 1);
    no(x.office(0, 1, 1, 100001), 1);
    no(x.office(0, 1, -1, 1), 1);
    no(x.office(0, 1441, 1, 1), 1);
    no(x.offset(0, 1000001), 1);
    no(x.rate(0, 5, 1000000001L), 1);
    no(x.rate(0, 1000000001L, 5), 1);
    no(x.together(4), 2);
    no(x.together(5), 2);
    no(x.together(256), 1);
    no(x.claim(2), 2);
    no(x.tell(0, 0), 1);
    no(x.tell(1, 60), 1);
    no(x.as(0, 0, 60, LOW), 1);
  }

  private static void nothingChanges() {
    says("REFUSALS change nothing but what is told, and status().");
    laden();
    long[] was = look();
    refusedCalls();
    same(was);
    is(x.free(0, 0, false), false);
    is(x.free(0, 2, false), true);
    says("REFUSALS change nothing of the image.");
    laden();
    no(x.back(), 2);
    was = look();
    yes(x.image());
    refusedCalls();
    yes(x.close(0));
    yes(x.back());
    same(was);
    says("REFUSALS change status().");
    laden();
    due(x.status(1), 0);
    refusedCalls();
    due(x.status(1), 26);
    due(x.status(2), 13);
    due(x.status(3), 2);
    due(x.status(4), 0);
    due(x.status(5), 0);
  }

  private static void answers() {
    says("A refused call answers NONE, or false.");
    due(x.tell(1, 0), NONE);
    due(x.kind(0, 0), NONE);
    due(x.weight(0, 0), NONE);
    due(x.sum(0, 0, LOW), NONE);
    due(x.as(0, 0, 0, LOW), NONE);
    due(x.together(1) ? 1 : 0, 0);
    due(x.back() ? 1 : 0, 0);
    due(x.check(0, LOW), -4);
    due(x.status(2), 8);
    for (int c = 0; c < 40; c++) x.contract();
    due(x.contract(), NONE);
    due(x.status(5), 1);
  }

  private static void ownMemory() {
    says("All memory is the desk's own.");
    laden();
    LaytimeDesk first = x;
    long[] was = look();
    LaytimeDesk second = new LaytimeDesk();
    x = second;
    no(x.kind(0, 0), 2);
    no(x.told(0, DAYS), 2);
    no(x.back(), 2);
    no(x.tell(1, 0), 2);
    due(x.status(7), 0);
    x.contract();
    yes(x.heading(0, 0, 9));
    yes(x.port(0, 0, 1));
    yes(x.image());
    x = first;
    same(was);
    no(x.back(), 2);
    x = second;
    is(x.headed(0, 0), 9);
    is(x.told(0, EVENTS), 0);
  }

  private static void calls() {
    says("An object is used for at most 512 calls after it has been made");
    x.contract();
    for (int i = 2; i < 512; i++) x.kind(0, -1);
    due(x.status(1), 510);
    fresh();
    for (int i = 1; i < 512; i++) due(x.kind(0, 0), NONE);
    due(x.contract(), 0);
  }

  public static void main(String[] args) {
    contractsAndPlaces();
    ports();
    days();
    minutes();
    kinds();
    leastOfSeveral();
    nothingChanges();
    answers();
    ownMemory();
    calls();
    finish();
  }
}
