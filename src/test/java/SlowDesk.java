import java.util.ArrayList;
import java.util.List;

/** The document once more, in its slowest form: minute by minute, a list of minutes for each answer. */
final class SlowDesk {
  static final class Thing {
    int kind, sort, a, b, yields, amount;
    Thing(int kind, int sort, int a, int b) { this.kind = kind; this.sort = sort; this.a = a; this.b = b; }
    Thing twin() {
      Thing t = new Thing(kind, sort, a, b);
      t.yields = yields;
      t.amount = amount;
      return t;
    }
  }

  static final class Day {
    boolean missing;
    int torn = 1440;
    List<int[]> events = new ArrayList<>();
    Day twin() {
      Day d = new Day();
      d.missing = missing;
      d.torn = torn;
      for (int[] e : events) d.events.add(e.clone());
      return d;
    }
  }

  static final class Port {
    int c, from = 0, to = 1440, grace, offset;
    long tons, rate, back;
    List<Day> days = new ArrayList<>();
    List<Boolean> free = new ArrayList<>();
    Port twin() {
      Port p = new Port();
      p.c = c; p.from = from; p.to = to; p.grace = grace; p.offset = offset;
      p.tons = tons; p.rate = rate; p.back = back;
      for (Day d : days) p.days.add(d.twin());
      p.free.addAll(free);
      return p;
    }
    int length() { return 1440 * days.size(); }
    boolean known(int m) { Day d = days.get(m / 1440); return !d.missing && m % 1440 < d.torn; }
    List<int[]> events() {
      List<int[]> all = new ArrayList<>();
      for (int d = 0; d < days.size(); d++) for (int[] e : days.get(d).events) all.add(new int[] {1440 * d + e[0], e[1]});
      return all;
    }
    int first(int kind, int from) {
      for (int[] e : events()) if (e[1] == kind && e[0] >= from) return e[0];
      return -1;
    }
    int[] states() {
      int[] s = new int[length()];
      List<int[]> all = events();
      int i = 0, now = 0;
      for (int m = 0; m < s.length; m++) {
        while (i < all.size() && all.get(i)[0] <= m) {
          int k = all.get(i++)[1];
          if (k >= 3 && k <= 6) now = k - 2;
        }
        s[m] = now;
      }
      return s;
    }
    int good() {
      int a = first(0, 0), n = first(1, 0);
      if (a < 0 || n < 0) return -1;
      for (int m = 0; m < length(); m++) {
        int t = m % 1440;
        if (known(m) && !free.get(m / 1440) && t >= from && t < to && m >= a && m >= n) return m;
      }
      return -1;
    }
    int begin() { int g = good(); return g < 0 ? -1 : g + grace; }
    boolean counts() { return good() >= 0 && begin() < length(); }
    boolean ended() { return first(7, begin()) >= 0; }
    int end() { return ended() ? first(7, begin()) : length(); }
  }

  static final class All {
    List<Thing[]> contracts = new ArrayList<>();
    Port[] ports = new Port[8];
    int[] group = new int[8];
    int claimPort = -1;
    List<int[]> claim = new ArrayList<>();
    All twin() {
      All t = new All();
      for (Thing[] c : contracts) {
        Thing[] d = new Thing[60];
        for (int i = 0; i < 60; i++) d[i] = c[i] == null ? null : c[i].twin();
        t.contracts.add(d);
      }
      for (int p = 0; p < 8; p++) t.ports[p] = ports[p] == null ? null : ports[p].twin();
      t.group = group.clone();
      t.claimPort = claimPort;
      t.claim.addAll(claim);
      return t;
    }
    int events() {
      int n = 0;
      for (Port p : ports) if (p != null) n += p.events().size();
      return n;
    }
  }

  /** One minute of a GROUP: where it stands, whose it is, which, what it adds, what tells it. */
  static final class Minute {
    final int place, port, m;
    int halves, why;
    Minute(int place, int port, int m) { this.place = place; this.port = port; this.m = m; }
  }

  private All all = new All();
  private All kept;
  private final int[] refused = new int[6];
  private int reason;

  SlowDesk() { for (int p = 0; p < 8; p++) all.group[p] = p; }

  // Collects the reasons of a call; the least is told.
  private int bad;
  private void fresh() { bad = 0; }
  private boolean no(boolean when, int why) {
    if (when && (bad == 0 || why < bad)) bad = why;
    return when;
  }
  private boolean stop() {
    reason = bad;
    if (bad != 0) refused[bad]++;
    return bad != 0;
  }
  private Thing[] c(int c) {
    if (no(c < 0 || c > 39, 1) || no(c >= all.contracts.size(), 2)) return null;
    return all.contracts.get(c);
  }
  private Thing at(int c, int place) {
    Thing[] t = c(c);
    if (no(place < 0 || place > 59, 1) || t == null) return null;
    return t[place];
  }
  private Port p(int p) {
    if (no(p < 0 || p > 7, 1) || no(all.ports[p] == null, 2)) return null;
    return all.ports[p];
  }
  private Day d(int p, int d) {
    Port port = p(p);
    if (no(d < 0 || d > 89, 1) || port == null || no(d >= port.days.size(), 1)) return null;
    return port.days.get(d);
  }
  private Port m(int p, int m) {
    Port port = p(p);
    if (no(m < 0 || m >= 129600, 1) || port == null || no(m >= port.length(), 1)) return null;
    return port;
  }
  private void holdsTerm(Thing t) {
    no(t == null, 2);
    no(t != null && t.kind == 5, 3);
  }

  public int contract() {
    fresh();
    no(all.contracts.size() >= 40, 5);
    if (stop()) return -1;
    all.contracts.add(new Thing[60]);
    return all.contracts.size() - 1;
  }
  public boolean term(int c, int place, int kind, int sort, int a, int b) {
    fresh();
    at(c, place);
    no(kind < 0 || kind > 4 || sort < 0 || sort > 4, 1);
    no(sort == 1 && (a < 0 || a > 1440 || b < 0 || b > 1440), 1);
    no(sort == 3 && (a < 0 || a > 4), 1);
    no(sort == 4 && (a < 0 || a > 129600 || b < 0 || b > 129600), 1);
    if (stop()) return false;
    all.contracts.get(c)[place] = new Thing(kind, sort, a, b);
    return true;
  }
  public int yields(int c, int place, int bits) {
    fresh();
    Thing t = at(c, place);
    holdsTerm(t);
    no(bits < 0 || bits > 31, 1);
    if (stop()) return -1;
    int was = t.yields;
    t.yields = bits;
    return was;
  }
  public boolean amount(int c, int place, int v) {
    fresh();
    Thing t = at(c, place);
    holdsTerm(t);
    no(v < -1000000 || v > 1000000, 1);
    if (stop()) return false;
    t.amount = v;
    return true;
  }
  public boolean heading(int c, int place, int v) {
    fresh();
    at(c, place);
    if (stop()) return false;
    all.contracts.get(c)[place] = new Thing(5, 0, v, 0);
    return true;
  }
  public boolean strike(int c, int place) {
    fresh();
    no(at(c, place) == null, 2);
    if (stop()) return false;
    all.contracts.get(c)[place] = null;
    return true;
  }
  public int kind(int c, int place) {
    fresh();
    Thing t = at(c, place);
    if (stop()) return -1;
    return t == null ? 6 : t.kind;
  }
  public int headed(int c, int place) {
    fresh();
    Thing t = at(c, place);
    no(t == null, 2);
    no(t != null && t.kind != 5, 3);
    if (stop()) return -1;
    return t.a;
  }
  public int span(int c, int place, int what) {
    fresh();
    Thing t = at(c, place);
    holdsTerm(t);
    no(what < 0 || what > 4, 1);
    if (stop()) return -1;
    return new int[] {t.sort, t.a, t.b, t.yields, t.amount}[what];
  }
  public boolean port(int p, int c, int days) {
    fresh();
    no(p < 0 || p > 7, 1);
    c(c);
    no(days < 1 || days > 90, 1);
    if (stop()) return false;
    Port port = new Port();
    port.c = c;
    for (int d = 0; d < days; d++) {
      port.days.add(new Day());
      port.free.add(false);
    }
    all.ports[p] = port;
    alone(p);
    return true;
  }
  private void alone(int p) {
    // A GROUP bears the number of its least PORT.
    int next = -1;
    for (int q = 0; q < 8; q++) {
      if (q != p && all.group[q] == all.group[p]) {
        if (next < 0) next = q;
        if (all.group[p] == p) continue;
      }
    }
    if (all.group[p] == p && next >= 0) for (int q = 0; q < 8; q++) if (q != p && all.group[q] == p) all.group[q] = next;
    all.group[p] = p;
  }
  public boolean close(int p) {
    fresh();
    p(p);
    if (stop()) return false;
    all.ports[p] = null;
    alone(p);
    return true;
  }
  public boolean event(int p, int m, int kind) {
    fresh();
    Port port = m(p, m);
    no(kind < 0 || kind > 7, 1);
    no(port != null && !port.known(m), 2);
    no(all.events() >= 5000, 5);
    if (stop()) return false;
    List<int[]> list = port.days.get(m / 1440).events;
    int i = 0;
    while (i < list.size() && list.get(i)[0] <= m % 1440) i++;
    list.add(i, new int[] {m % 1440, kind});
    return true;
  }
  public boolean day(int p, int d, boolean is) {
    fresh();
    d(p, d);
    if (stop()) return false;
    Day day = new Day();
    day.missing = !is;
    all.ports[p].days.set(d, day);
    return true;
  }
  public int tear(int p, int d, int t) {
    fresh();
    Day day = d(p, d);
    no(t < 0 || t > 1439, 1);
    no(day != null && day.missing, 2);
    if (stop()) return -1;
    day.torn = Math.min(day.torn, t);
    int was = day.events.size();
    day.events.removeIf(e -> e[0] >= day.torn);
    return was - day.events.size();
  }
  public int copy(int p, int d, int q, int e, int n) {
    fresh();
    d(p, d);
    d(q, e);
    no(n < 0 || n > 90, 1);
    if (bad != 0) { stop(); return -1; }
    List<Day> source = new ArrayList<>();
    for (Day day : all.ports[q].days) source.add(day.twin());
    int came = 0;
    for (; came < n; came++) {
      if (no(d + came >= all.ports[p].days.size() || e + came >= source.size(), 4)) break;
      Day gone = all.ports[p].days.get(d + came), comes = source.get(e + came);
      if (no(all.events() - gone.events.size() + comes.events.size() > 5000, 5)) break;
      all.ports[p].days.set(d + came, comes.twin());
    }
    stop();
    return came;
  }
  public boolean free(int p, int d, boolean is) {
    fresh();
    Day day = d(p, d);
    no(day != null && day.missing, 2);
    if (stop()) return false;
    return all.ports[p].free.set(d, is);
  }
  public boolean tons(int p, long thousandths) {
    fresh();
    Port port = p(p);
    no(thousandths < 0 || thousandths > 100000000L, 1);
    if (stop()) return false;
    port.tons = thousandths;
    return true;
  }
  public boolean office(int p, int from, int to, int grace) {
    fresh();
    Port port = p(p);
    no(from < 0 || from > 1440 || to < 0 || to > 1440 || grace < 0 || grace > 100000, 1);
    if (stop()) return false;
    port.from = from;
    port.to = to;
    port.grace = grace;
    return true;
  }
  public boolean offset(int p, int v) {
    fresh();
    Port port = p(p);
    no(v < 0 || v > 1000000, 1);
    if (stop()) return false;
    port.offset = v;
    return true;
  }
  public boolean rate(int p, long rate, long back) {
    fresh();
    Port port = p(p);
    no(rate < 0 || rate > 1000000000L || back < 0 || back > 1000000000L, 1);
    if (stop()) return false;
    port.rate = rate;
    port.back = back;
    return true;
  }
  public boolean together(int bits) {
    fresh();
    no(bits < 0 || bits > 255, 1);
    for (int p = 0; p < 8; p++) if ((bits & 1 << p) != 0) no(all.ports[p] == null, 2);
    if (stop()) return false;
    int least = -1;
    for (int p = 0; p < 8; p++) {
      all.group[p] = p;
      if ((bits & 1 << p) == 0) continue;
      if (least < 0) least = p;
      all.group[p] = least;
    }
    return true;
  }
  public int told(int p, int what) {
    fresh();
    Port port = p(p);
    no(what < 0 || what > 7, 1);
    if (stop()) return -1;
    if (what == 0) return port.good();
    if (what == 1) return port.begin();
    if (what == 2) return port.counts() ? port.end() : -1;
    if (what == 3) return (int) allowed(port);
    if (what == 4) return port.days.size();
    if (what == 5) return port.events().size();
    if (what == 7) return port.c;
    int n = 0;
    for (int m = 0; m < port.length(); m++) if (!port.known(m)) n++;
    return n;
  }
  public long weight(int p, int what) {
    fresh();
    Port port = p(p);
    no(what < 0 || what > 1, 1);
    if (stop()) return -1;
    return what == 0 ? port.tons / 1000 : port.tons % 1000;
  }
  public int state(int p, int m) {
    fresh();
    Port port = m(p, m);
    no(port != null && !port.known(m), 2);
    if (stop()) return -1;
    return port.states()[m];
  }

  private long allowed(Port port) {
    long sum = 0;
    for (Thing t : all.contracts.get(port.c)) {
      if (t == null || t.kind != 0) continue;
      if (t.amount > 0) sum += t.amount;
      if (t.amount < 0) sum += port.tons * 60 / (1000L * Math.abs(t.amount));
    }
    return sum;
  }
  private boolean spans(Port port, Thing t, int m, int state) {
    int at = m % 1440;
    switch (t.sort) {
      case 0: return true;
      case 1: return t.a > t.b ? at >= t.a || at < t.b : at >= t.a && at < t.b;
      case 2: return port.free.get(m / 1440);
      case 3: return state == t.a;
      default: return m >= t.a && m < t.b;
    }
  }
  private void tellMinute(Minute minute, Port port, int state, boolean over, boolean high) {
    if (!port.known(minute.m)) {
      minute.why = -3;
      minute.halves = high ? 2 : 0;
      return;
    }
    Thing[] places = all.contracts.get(port.c);
    List<Integer> asked = new ArrayList<>();
    for (int i = 0; i < 60; i++) {
      Thing t = places[i];
      if (t != null && t.kind != 5 && (t.kind == 3) == over && spans(port, t, minute.m, state)) asked.add(i);
    }
    minute.why = -2;
    minute.halves = 2;
    if (asked.isEmpty()) return;
    int teller = -1;
    for (int i : asked) {
      boolean yields = false;
      for (int j : asked) if (i != j && (places[i].yields >> places[j].kind & 1) != 0) yields = true;
      if (!yields) teller = i;
    }
    if (teller < 0) teller = asked.get(asked.size() - 1);
    minute.why = teller;
    Thing t = places[teller];
    int unless = state == 1 ? 2 : 0;
    switch (t.kind) {
      case 0: minute.halves = 2; break;
      case 1: minute.halves = 0; break;
      case 2: minute.halves = unless; break;
      case 3: minute.halves = t.amount == 1 ? 0 : t.amount == 2 ? unless : 2; break;
      default: minute.halves = 1;
    }
  }

  private List<Minute> minutes;
  private long limit, once, halves;
  private boolean reached;
  private int counting, leastPort;
  private boolean ended;

  private void group(int p, boolean high) {
    minutes = new ArrayList<>();
    limit = 0; counting = 0; ended = true; leastPort = -1;
    int[][] states = new int[8][];
    for (int q = 0; q < 8; q++) {
      Port port = all.ports[q];
      if (port == null || all.group[q] != all.group[p]) continue;
      if (leastPort < 0) leastPort = q;
      if (!port.counts()) continue;
      counting++;
      limit += 2 * allowed(port);
      ended &= port.ended();
      states[q] = port.states();
      int end = port.end();
      for (int m = port.begin(); m < end; m++) minutes.add(new Minute(port.offset + m, q, m));
    }
    minutes.sort((x, y) -> x.place != y.place ? Integer.compare(x.place, y.place) : Integer.compare(x.port, y.port));
    halves = 0;
    reached = limit == 0 && !minutes.isEmpty();
    once = reached ? minutes.get(0).place - 1 : -1;
    for (Minute x : minutes) {
      tellMinute(x, all.ports[x.port], states[x.port][x.m], halves >= limit, high);
      halves += x.halves;
      if (!reached && halves >= limit) { reached = true; once = x.place; }
    }
  }
  private Minute find(int p, int m, boolean high) {
    group(p, high);
    for (Minute x : minutes) if (x.port == p && x.m == m) return x;
    return null;
  }
  public int minute(int p, int m, boolean high) {
    fresh();
    m(p, m);
    if (stop()) return -1;
    Minute x = find(p, m, high);
    return x == null ? -1 : x.why == -3 ? 3 : x.halves;
  }
  public int why(int p, int m, boolean high) {
    fresh();
    m(p, m);
    if (stop()) return -1;
    Minute x = find(p, m, high);
    return x == null ? -1 : x.why;
  }
  public int counts(int p, int from, int to, boolean high) {
    fresh();
    p(p);
    no(from < 0 || to < 0, 1);
    if (stop()) return -1;
    group(p, high);
    int sum = 0;
    for (Minute x : minutes) if (x.port == p && x.m >= from && x.m < to) sum += x.halves;
    return sum;
  }
  public int by(int p, int place, boolean high) {
    fresh();
    p(p);
    no(place < -3 || place == -1 || place > 59, 1);
    if (stop()) return -1;
    group(p, high);
    int sum = 0;
    for (Minute x : minutes) if (x.port == p && x.why == place) sum++;
    return sum;
  }
  private long owed() { return Math.max(0, halves - limit); }
  private long saved() { return counting > 0 && ended ? Math.max(0, limit - halves) : 0; }
  public long sum(int p, int what, boolean high) {
    fresh();
    p(p);
    no(what < 0 || what > 8, 1);
    if (stop()) return -1;
    group(p, high);
    Port least = all.ports[leastPort];
    long money = owed() * least.rate / 2880 - saved() * least.back / 2880;
    return new long[] {halves, limit, once, owed(), saved(), money, minutes.size(), leastPort, counting}[what];
  }
  public long as(int p, int place, int to, boolean high) {
    fresh();
    Port port = p(p);
    no(place < 0 || place > 59 || to < -1 || to > 59, 1);
    if (stop()) return -1;
    Thing[] places = all.contracts.get(port.c);
    Thing was = places[place];
    places[place] = to < 0 ? null : places[to];
    group(p, high);
    places[place] = was;
    return owed() - saved();
  }
  public boolean claim(int p) {
    fresh();
    p(p);
    if (stop()) return false;
    all.claimPort = p;
    all.claim.clear();
    return true;
  }
  public int tell(int n, int why) {
    fresh();
    no(n < 1 || n > 129600 || why < -3 || why == -1 || why > 59, 1);
    no(all.claimPort < 0, 2);
    no(all.claim.size() >= 500, 5);
    if (stop()) return -1;
    all.claim.add(new int[] {n, why});
    return all.claim.size();
  }
  public int check(int halves, boolean high) {
    fresh();
    no(all.claimPort < 0 || all.ports[all.claimPort] == null, 2);
    if (stop()) return -4;
    group(all.claimPort, high);
    long sum = 0, told = 0;
    int row = 0, of = 0, n = 0;
    for (int[] r : all.claim) told += r[0];
    for (Minute x : minutes) {
      if (x.port != all.claimPort) continue;
      sum += x.halves;
      n++;
      while (row < all.claim.size() && of == all.claim.get(row)[0]) { row++; of = 0; }
      if (row >= all.claim.size() || all.claim.get(row)[1] != x.why) return x.m;
      of++;
    }
    Port port = all.ports[all.claimPort];
    if (told > n) return port.counts() ? port.end() : 0;
    return sum == halves ? -1 : -2;
  }
  public boolean image() {
    fresh();
    stop();
    kept = all.twin();
    return true;
  }
  public boolean back() {
    fresh();
    no(kept == null, 2);
    if (stop()) return false;
    all = kept.twin();
    return true;
  }
  public int status(int what) {
    if (what == 0) return reason;
    if (what >= 1 && what <= 5) return refused[what];
    if (what == 6) return all.contracts.size();
    if (what == 7) return all.events();
    if (what == 8) return all.claim.size();
    return -1;
  }
}
