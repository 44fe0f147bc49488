import java.lang.reflect.Method;
import java.util.ArrayList;
import java.util.HashMap;
import java.util.List;
import java.util.Map;

/** Runs of calls, the same on LaytimeDesk and on SlowDesk: each answer and each status must be equal. */
public final class AgainstSlowDeskTest {
  private static final Map<String, Method> FAST = new HashMap<>();
  private static final Map<String, Method> SLOW = new HashMap<>();
  private static int wrong = 0;

  private long seed;
  private final LaytimeDesk fast = new LaytimeDesk();
  private final SlowDesk slow = new SlowDesk();
  private final List<String> calls = new ArrayList<>();
  private boolean failed;
  private final int days;
  private final int ports;
  private final int oddOneIn;

  private AgainstSlowDeskTest(long seed, int days, int ports, int oddOneIn) {
    this.seed = seed * 7919L + 17L;
    this.days = days;
    this.ports = ports;
    this.oddOneIn = oddOneIn;
  }

  // A row of numbers that is the same in each run, made without java.util.Random.
  private int roll(int n) {
    seed = seed * 6364136223846793005L + 1442695040888963407L;
    return (int) ((seed >>> 33) % n);
  }
  private boolean odd() { return roll(oddOneIn) == 0; }
  private int pick(int... of) { return of[roll(of.length)]; }
  private int wild() {
    return pick(-1, -2, -3, -4, 5, 6, 7, 8, 9, 31, 32, 39, 40, 59, 60, 89, 90, 91, 255, 256, 1439, 1440, 1441, 129599,
        129600, 129601, 100001, 1000001, Integer.MAX_VALUE, Integer.MIN_VALUE);
  }

  private long call(String name, Object... args) {
    Object a = null, b = null;
    try {
      a = FAST.get(name).invoke(fast, args);
      b = SLOW.get(name).invoke(slow, args);
    } catch (ReflectiveOperationException e) {
      a = e.getCause() == null ? e : e.getCause();
    }
    StringBuilder text = new StringBuilder(name).append('(');
    for (int i = 0; i < args.length; i++) text.append(i == 0 ? "" : ", ").append(args[i]);
    calls.add(text.append(") = ").append(a).toString());
    boolean same = a != null && a.equals(b) && sameStatus();
    if (!same && !failed) {
      failed = true;
      wrong++;
      System.out.println("calls:");
      for (String c : calls) System.out.println("  " + c);
      System.out.println("  due is " + b);
      for (int i = 0; i <= 8; i++) System.out.println("  status " + i + ": " + fast.status(i) + " " + slow.status(i));
    }
    return a instanceof Boolean ? ((Boolean) a ? 1 : 0) : a instanceof Number ? ((Number) a).longValue() : -9;
  }
  private boolean sameStatus() {
    for (int i = -1; i <= 9; i++) if (fast.status(i) != slow.status(i)) return false;
    return true;
  }

  private int c() { return odd() ? wild() : roll(2); }
  private int p() { return odd() ? wild() : roll(ports); }
  private int place() { return odd() ? wild() : roll(20) == 0 ? 59 : roll(9); }
  private int d() { return odd() ? wild() : roll(days); }
  private int m() { return odd() ? wild() : roll(3) == 0 ? roll(days) * 1440 + pick(0, 1, 59, 60, 600, 601, 1439) : roll(days * 1440); }
  private int hour() { return odd() ? wild() : roll(4) == 0 ? pick(0, 1440, 720) : roll(25) * 60; }
  private boolean high() { return roll(2) == 0; }

  private void anyTerm() {
    int c = c(), place = place(), kind = odd() ? wild() : roll(5), sort = odd() ? wild() : roll(5);
    int a, b;
    switch (sort) {
      case 1: a = hour(); b = hour(); break;
      case 3: a = odd() ? wild() : roll(5); b = wild(); break;
      case 4: a = m(); b = m(); break;
      default: a = wild(); b = wild(); break;
    }
    call("term", c, place, kind, sort, a, b);
    if (kind == 0 || kind == 3) anyAmount(c, place, kind);
    if (roll(2) == 0) call("yields", c, place, odd() ? wild() : roll(32));
  }
  private void anyAmount(int c, int place, int kind) {
    int v = kind == 3 ? roll(4) : pick(0, 1, roll(100), roll(days * 1440), roll(days * 720), -1 - roll(500), -1000000, 1000000);
    call("amount", c, place, odd() ? wild() : v);
  }
  private void anyEvent() {
    call("event", p(), m(), odd() ? wild() : roll(3) == 0 ? roll(8) : 3 + roll(4));
  }

  private void start() {
    call("contract");
    call("contract");
    for (int i = roll(8); i > 0; i--) anyTerm();
    int many = 1 + roll(ports);
    for (int p = 0; p < many; p++) openPort(p);
    if (ports > 3) call("together", (1 << many) - 1);
  }
  private void openPort(int p) {
    call("port", p, roll(2), odd() ? 1 : days);
    if (roll(8) != 0) call("event", p, roll(3) * 60, 0);
    if (roll(8) != 0) call("event", p, roll(8) * 100, 1);
    if (roll(3) == 0) call("offset", p, pick(0, 1, 5, 60, 700, 1440, 1000000, roll(3000)));
    if (roll(3) == 0) call("event", p, roll(days * 1440), 7);
    for (int i = roll(6); i > 0; i--) call("event", p, roll(days * 1440), 3 + roll(4));
  }

  private void change() {
    switch (roll(22)) {
      case 0: case 1: case 2: anyTerm(); break;
      case 3: call("yields", c(), place(), odd() ? wild() : roll(32)); break;
      case 4: case 5: anyAmount(c(), place(), roll(2) * 3); break;
      case 6: call("heading", c(), place(), wild()); break;
      case 7: call("strike", c(), place()); break;
      case 8: if (roll(3) == 0) openPort(roll(ports)); break;
      case 9: if (roll(4) == 0) call("close", p()); break;
      case 10: case 11: case 12: anyEvent(); break;
      case 13: call("day", p(), d(), roll(3) != 0); break;
      case 14: call("tear", p(), d(), hour()); break;
      case 15: call("copy", p(), d(), p(), d(), odd() ? wild() : roll(days + 2)); break;
      case 16: call("free", p(), d(), high()); break;
      case 17: call("tons", p(), (long) (odd() ? wild() : roll(100000000))); break;
      case 18: call("office", p(), hour(), hour(), odd() ? wild() : roll(days * 1000)); break;
      case 19: call("offset", p(), odd() ? wild() : pick(0, 0, 1, 60, 1000, roll(5000))); break;
      case 20: call("rate", p(), (long) (odd() ? wild() : roll(1000000000)), (long) (odd() ? wild() : roll(1000000))); break;
      default: call("together", odd() ? wild() : roll(1 << ports)); break;
    }
  }

  private void ask() {
    switch (roll(16)) {
      case 0: call("kind", c(), place()); break;
      case 1: call("headed", c(), place()); break;
      case 2: call("span", c(), place(), odd() ? wild() : roll(5)); break;
      case 3: call("told", p(), odd() ? wild() : roll(8)); break;
      case 4: call("weight", p(), odd() ? wild() : roll(2)); break;
      case 5: call("state", p(), m()); break;
      case 6: call("minute", p(), m(), high()); break;
      case 7: call("why", p(), m(), high()); break;
      case 8: call("counts", p(), m(), m(), high()); break;
      case 9: call("by", p(), odd() ? wild() : pick(-2, -3, roll(9)), high()); break;
      case 10: case 11: case 12: call("sum", p(), odd() ? wild() : roll(9), high()); break;
      case 13: call("as", p(), place(), odd() ? wild() : roll(10) - 1, high()); break;
      case 14: if (roll(3) == 0) call("image"); else if (roll(3) == 0) call("back"); break;
      default: askAround(); break;
    }
  }

  /** The minutes beside ONCE are those in which a mistake shows. */
  private void askAround() {
    int p = roll(ports);
    boolean high = high();
    long once = call("sum", p, 2, high);
    if (once < 0) return;
    for (int i = -1; i <= 1; i++) {
      for (int q = 0; q < ports; q++) {
        int m = (int) once + i - offsetOf(q);
        if (m >= 0) call("why", q, m, high);
        if (m >= 0) call("minute", q, m, high);
      }
    }
  }
  private int offsetOf(int p) {
    for (int i = calls.size() - 1; i >= 0; i--) {
      String c = calls.get(i);
      if (c.startsWith("port(" + p + ",") && c.endsWith("true")) return 0;
      if (c.startsWith("offset(" + p + ", ") && c.endsWith("true")) return Integer.parseInt(c.substring(10, c.indexOf(')')));
    }
    return 0;
  }

  /** A claim that is right, told row by row from why(), with a mistake in some. */
  private void claims() {
    int p = roll(ports);
    boolean high = high();
    call("claim", odd() ? wild() : p);
    long end = slow.told(p, 2);
    fast.told(p, 2);
    long begin = call("told", p, 1);
    int mistake = roll(3) == 0 ? roll(6) : -1;
    long m = begin;
    for (int row = 0; m >= 0 && m < end && row < 60; row++) {
      int why = slow.why(p, (int) m, high);
      fast.why(p, (int) m, high);
      int n = 1;
      while (m + n < end && n < 500 && fast.why(p, (int) m + n, high) == why) n++;
      call("tell", row == mistake ? n + 1 + roll(3) : n, odd() ? wild() : why);
      m += n;
    }
    if (roll(4) == 0) call("tell", 1 + roll(50), pick(-2, -3, 0, 1));
    call("check", odd() ? wild() : (int) call("counts", p, 0, 129600, high), high);
    call("check", 0, high());
  }
  /** Runs in which there are some 5000 EVENTS: DAYS come, go and are copied where there is hardly room for them. */
  private void crowd(int turns) {
    call("contract");
    for (int p = 0; p < ports; p++) call("port", p, 0, days);
    int inOneDay = 5000 / (days * (ports - 1)) - 3 + roll(6);
    for (int i = 0; i < inOneDay; i++) call("event", 0, roll(1440), roll(8));
    for (int d = 1; d < days; d *= 2) call("copy", 0, d, 0, 0, Math.min(d, days - d));
    for (int p = 1; p < ports; p++) call("copy", p, 0, 0, 0, days);
    call("image");
    for (int i = 0; i < turns && !failed; i++) crowdedCall();
  }
  private void crowdedCall() {
    switch (roll(12)) {
      case 0: case 1: case 2: case 3: call("copy", p(), d(), p(), d(), odd() ? wild() : roll(days + 2)); break;
      case 4: case 5: call("event", p(), m(), roll(8)); break;
      case 6: call("tear", p(), d(), 1439 - roll(300)); break;
      case 7: if (roll(3) == 0) call("day", p(), d(), high()); break;
      case 8: call("told", p(), roll(8)); break;
      case 9: call("state", p(), m()); break;
      case 10: if (roll(8) == 0) call("port", p(), 0, days); else call("sum", p(), roll(9), high()); break;
      // Else the EVENTS would soon be few.
      default: if (roll(2) == 0) call("back"); break;
    }
  }

  private void run(int turns) {
    start();
    for (int i = 0; i < turns && !failed; i++) {
      if (roll(3) == 0) change(); else ask();
      if (roll(40) == 0) claims();
    }
  }

  private static void methods(Class<?> of, Map<String, Method> into) {
    for (Method m : of.getDeclaredMethods()) if (java.lang.reflect.Modifier.isPublic(m.getModifiers())) into.put(m.getName(), m);
    for (Method m : into.values()) m.setAccessible(true);
  }

  public static void main(String[] args) {
    methods(LaytimeDesk.class, FAST);
    methods(SlowDesk.class, SLOW);
    int runs = args.length > 0 ? Integer.parseInt(args[0]) : 400;
    int from = args.length > 1 ? Integer.parseInt(args[1]) : 0;
    for (int i = from; i < from + runs && wrong < 3; i++) {
      int days = i % 100 == 99 ? 90 : 1 + i % 3;
      int oddOneIn = i % 10 == 1 ? 2 : i % 4 == 0 ? 8 : 40;
      int ports = i % 9 == 4 ? 8 : 3;
      if (i % 20 == 13) {
        new AgainstSlowDeskTest(i, 8 + i % 23, 2 + i % 3, 40).crowd(200);
        continue;
      }
      new AgainstSlowDeskTest(i, days, ports, oddOneIn).run(days == 90 ? 30 : i % 50 == 0 ? 400 : 120);
    }
    System.out.println(wrong == 0 ? "all runs answer alike" : wrong + " runs differ");
    if (wrong != 0) System.exit(1);
  }
}
