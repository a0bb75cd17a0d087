import java.util.ArrayList;
import java.util.List;
import java.util.TreeSet;

// Runs of drawn calls on the class and on a plain model of the document beside it, which keeps what
// was told and works out each answer anew from the document's words, minute by minute.
public final class ModelTests {
  private static final int RUNS = 1500, CALLS = 512;
  private static long drawn;

  private static int draw(int bound) {
    drawn = drawn * 6364136223846793005L + 1442695040888963407L;
    return (int) ((drawn >>> 33) % bound);
  }

  private static int between(int least, int most) {
    return least + draw(most - least + 1);
  }

  // The days of a run lie close together, so that what is told meets what is asked.
  private static final class Days {
    final int from, to;
    final List<Integer> used = new ArrayList<>();

    Days() {
      int[][] spans = {{21, 60}, {100, 160}, {100, 2200}, {0, 3999}, {3900, 3999}, {21, 120}};
      int[] span = spans[draw(spans.length)];
      from = span[0];
      to = span[1];
    }

    int next() {
      if (draw(40) == 0) {
        return new int[] {-1, 4000, 0, 3999}[draw(4)];
      }
      if (!used.isEmpty() && draw(3) > 0) {
        int[] steps = {0, 0, 0, 1, -1, 7, 27, 28, -28, 1825, 1826, -1825};
        int day = used.get(draw(used.size())) + steps[draw(steps.length)];
        return Math.max(0, Math.min(3999, day));
      }
      int day = between(from, to);
      used.add(day);
      return day;
    }
  }

  private static final class Model {
    final List<Integer> feasts = new ArrayList<>();
    final List<int[]> laws = new ArrayList<>();
    final List<int[]> objectors = new ArrayList<>();
    final List<int[]> houses = new ArrayList<>();
    final List<List<int[]>> events = new ArrayList<>();
    final List<List<int[]>> worths = new ArrayList<>();
    TreeSet<Integer> visited = new TreeSet<>();
    int near = 20, heard = 100, refused = 0;
    long seed = 1;

    static boolean day(int d) {
      return d >= 0 && d <= 3999;
    }

    boolean house(int h) {
      return h >= 0 && h < houses.size();
    }

    int feast(int d) {
      if (!day(d)) return -1;
      if (feasts.contains(d)) return -2;
      if (feasts.size() == 20) return -3;
      feasts.add(d);
      return feasts.size();
    }

    int law(int d, int kind, int weekday, int f, int t) {
      boolean shut = f == 0 && t == 0;
      boolean hours = f >= 0 && f < 1440 && f < t && t <= 1800;
      if (!day(d) || kind < 0 || kind > 2 || weekday < 0 || weekday > 7 || !(shut || hours)) return -1;
      if (laws.size() == 40) return -3;
      laws.add(new int[] {d, kind, weekday, f, t});
      return laws.size();
    }

    int rule(int what, int v) {
      if (what != 0 && what != 1 || v < 0 || v > (what == 0 ? 200 : 500)) return -1;
      int was = what == 0 ? near : heard;
      if (what == 0) near = v;
      else heard = v;
      return was;
    }

    int objector(int x, int y, int weight) {
      if (x < 0 || x > 999 || y < 0 || y > 999 || weight < 1 || weight > 10) return -1;
      if (objectors.size() == 20) return -3;
      objectors.add(new int[] {x, y, weight});
      return objectors.size();
    }

    int ask(int x, int y, int kind, int worth, int notice, int session) {
      if (x < 0 || x > 999 || y < 0 || y > 999 || kind < 0 || kind > 2) return -1;
      if (worth < 1 || worth > 100000 || !day(notice) || !day(session) || notice > session) return -1;
      if (houses.size() == 30) return -3;
      int reason = 0;
      int weight = 0;
      for (int[] o : objectors) {
        if (Math.hypot(o[0] - x, o[1] - y) <= heard + 1e-9) weight += o[2];
      }
      if (weight > 10) reason = 3;
      for (int h = 0; h < houses.size(); h++) {
        int dx = houses.get(h)[0] - x, dy = houses.get(h)[1] - y;
        if (state(h, session) == 1 && dx * dx + dy * dy < near * near) reason = 2;
      }
      if (notice + 21 > session) reason = 1;
      if (reason > 0) {
        refused++;
        return -10 - reason;
      }
      houses.add(new int[] {x, y, kind, session, worth});
      events.add(new ArrayList<>());
      worths.add(new ArrayList<>());
      return houses.size() - 1;
    }

    boolean hasOffence(int h, int number) {
      for (int[] e : events.get(h)) {
        if (e[1] == 0 && e[2] == number) return true;
      }
      return false;
    }

    int event(int h, int d, int kind, int v) {
      if (!house(h) || !day(d) || kind < 0 || kind > 6) return -1;
      if ((kind == 0 || kind == 1) && (v < 0 || v > 99)) return -1;
      if (kind == 4 && (v < 0 || v > 1439)) return -1;
      if (d < houses.get(h)[3]) return -2;
      if (kind == 0 && hasOffence(h, v)) return -2;
      if (kind == 1 && !hasOffence(h, v)) return -2;
      if (events.get(h).size() == 16) return -3;
      events.get(h).add(new int[] {d, kind, v});
      return events.get(h).size();
    }

    int worth(int h, int d, int w) {
      if (!house(h) || !day(d) || w < 1 || w > 100000) return -1;
      if (worths.get(h).size() == 7) return -3;
      worths.get(h).add(new int[] {d, w});
      return worths.get(h).size() + 1;
    }

    List<Integer> standingOffences(int h, int asked) {
      List<Integer> days = new ArrayList<>();
      for (int[] e : events.get(h)) {
        boolean quashed = false;
        for (int[] q : events.get(h)) {
          quashed |= q[1] == 1 && q[2] == e[2] && q[0] <= asked;
        }
        if (e[1] == 0 && e[0] <= asked && !quashed) days.add(e[0]);
      }
      days.sort(null);
      return days;
    }

    // By sorted days: the third of any three that follow one another closely enough.
    int ended(int h, int asked) {
      List<Integer> days = standingOffences(h, asked);
      for (int i = 2; i < days.size(); i++) {
        if (days.get(i) - days.get(i - 2) <= 1825) return days.get(i);
      }
      return 9999;
    }

    int lapsed(int h, int asked) {
      int from = 9999;
      for (int[] e : events.get(h)) {
        if (e[1] == 2 && e[0] + 28 <= asked) {
          boolean saved = false;
          for (int[] t : events.get(h)) saved |= t[1] == 3 && t[0] >= e[0] && t[0] < e[0] + 28;
          if (!saved) from = Math.min(from, e[0] + 28);
        }
      }
      return from;
    }

    int surplus(int h, int asked) {
      int from = 9999;
      for (int[] e : events.get(h)) {
        if (e[1] == 6 && e[0] <= asked) from = Math.min(from, e[0]);
      }
      return from;
    }

    int state(int h, int d) {
      if (d < houses.get(h)[3]) return 0;
      int[] from = {ended(h, d), lapsed(h, d), surplus(h, d)};
      int least = 9999, state = 1;
      for (int i = 0; i < 3; i++) {
        if (from[i] < least) {
          least = from[i];
          state = i + 2;
        }
      }
      return state;
    }

    int condition(int h, int d) {
      for (int from = d; from >= 0; from--) {
        for (int i = events.get(h).size() - 1; i >= 0; i--) {
          int[] e = events.get(h).get(i);
          if (e[0] == from && e[1] == 4) return e[2];
          if (e[0] == from && e[1] == 5) return -4;
        }
      }
      return -4;
    }

    int worthOn(int h, int d) {
      int granted = houses.get(h)[3];
      for (int from = d; from >= granted; from--) {
        for (int i = worths.get(h).size() - 1; i >= 0; i--) {
          if (Math.max(worths.get(h).get(i)[0], granted) == from) return worths.get(h).get(i)[1];
        }
      }
      return houses.get(h)[4];
    }

    int on(int h, int d, int what) {
      if (!house(h) || !day(d) || what < 0 || what > 3) return -1;
      if (what == 0) return state(h, d);
      if (what == 2) return condition(h, d);
      if (what == 3) return worthOn(h, d);
      int counted = 0;
      for (int offence : standingOffences(h, d)) {
        if (offence >= d - 1825) counted++;
      }
      return counted;
    }

    int[] lawOf(int kind, int d) {
      int weekday = feasts.contains(d) ? 7 : d % 7;
      int[] found = {-1, 0, 0, 0, 0};
      for (int[] l : laws) {
        if (l[0] <= d && l[0] >= found[0] && l[1] == kind && l[2] == weekday) found = l;
      }
      return found;
    }

    int lawOn(int kind, int d, int what) {
      if (kind < 0 || kind > 2 || !day(d) || what != 0 && what != 1) return -1;
      return lawOf(kind, d)[3 + what];
    }

    boolean[] door(int h, int d) {
      boolean[] open = new boolean[1440];
      if (state(h, d) != 1) return open;
      int condition = condition(h, d);
      int[] law = lawOf(houses.get(h)[2], d);
      boolean goesOn = d > 0 && state(h, d - 1) == 1 && condition == -4;
      int until = goesOn ? lawOf(houses.get(h)[2], d - 1)[4] : 0;
      for (int m = 0; m < 1440; m++) {
        boolean today = law[3] <= m && m < law[4] && (condition == -4 || m < condition);
        open[m] = today || m + 1440 < until;
      }
      return open;
    }

    int open(int h, int d, int m) {
      if (!house(h) || !day(d) || m < 0 || m > 1439) return -1;
      return door(h, d)[m] ? 1 : 0;
    }

    int minutes(int h, int d) {
      if (!house(h) || !day(d)) return -1;
      int sum = 0;
      for (boolean open : door(h, d)) {
        if (open) sum++;
      }
      return sum;
    }

    int owes(int h, int s) {
      if (!house(h) || !house(s)) return -1;
      int d = surplus(s, 3999);
      if (d == 9999) return -2;
      List<long[]> payers = new ArrayList<>();
      long sum = 0;
      for (int i = 0; i < houses.size(); i++) {
        if (i != s && state(i, d) == 1) {
          payers.add(new long[] {i, worthOn(i, d), 0, 0});
          sum += worthOn(i, d);
        }
      }
      long debt = 3L * worthOn(s, d);
      long left = debt;
      for (long[] p : payers) {
        p[2] = debt * p[1] / sum;
        p[3] = debt * p[1] - p[2] * sum;
        left -= p[2];
      }
      payers.sort((a, b) -> a[3] != b[3] ? Long.compare(b[3], a[3]) : Long.compare(a[0], b[0]));
      long whole = 0;
      long due = 0;
      for (int i = 0; i < payers.size(); i++) {
        long pays = payers.get(i)[2] + (i < left ? 1 : 0);
        whole += pays;
        if (payers.get(i)[0] == h) due = pays;
      }
      if (!payers.isEmpty() && whole != debt) throw new IllegalStateException("not paid whole");
      return (int) due;
    }

    List<Integer> unvisited(int d) {
      List<Integer> found = new ArrayList<>();
      for (int h = 0; h < houses.size(); h++) {
        if (state(h, d) == 1 && !visited.contains(h)) found.add(h);
      }
      return found;
    }

    int visit(int d) {
      if (!day(d)) return -1;
      TreeSet<Integer> before = visited;
      if (unvisited(d).isEmpty()) visited = new TreeSet<>();
      List<Integer> from = unvisited(d);
      if (from.isEmpty()) {
        visited = before;
        return -2;
      }
      seed = seed * 16807 % 2147483647L;
      int h = from.get((int) (seed % from.size()));
      visited.add(h);
      return h;
    }

    int seed(int v) {
      if (v < 1 || v > 2147483646) return -1;
      seed = v;
      visited = new TreeSet<>();
      return 0;
    }

    int count(int what) {
      int[] counts = {houses.size(), laws.size(), feasts.size(), objectors.size(), visited.size(), refused};
      return what < 0 || what > 5 ? -1 : counts[what];
    }
  }

  private static int house(Model m) {
    return draw(60) == 0 ? between(-1, 30) : draw(Math.max(1, m.houses.size()));
  }

  private static int offence() {
    return draw(50) == 0 ? between(-1, 100) : draw(12);
  }

  private static int[] hours() {
    switch (draw(8)) {
      case 0:
        return new int[] {0, 0};
      case 1:
        return new int[] {between(-1, 1440), between(-1, 1801)};
      case 2:
        return new int[] {0, 1800};
      default:
        int f = draw(1440);
        return new int[] {f, Math.min(1800, f + 1 + draw(1000))};
    }
  }

  // Each row: the call's number, then its arguments.
  private static int[] drawCall(Model m, Days days, int spread) {
    int[] often = {0, 1, 1, 2, 3, 4, 4, 5, 5, 5, 5, 5, 6, 7, 7, 7, 8, 9, 9, 10, 11, 11, 12, 12, 13, 14};
    int call = draw(90) == 0 ? 13 : often[draw(often.length)];
    switch (call) {
      case 0:
        return new int[] {0, days.next()};
      case 1:
        int[] hours = hours();
        return new int[] {1, days.next(), between(0, 2), between(0, 7), hours[0], hours[1]};
      case 2:
        return new int[] {2, draw(20) == 0 ? between(-1, 2) : draw(2), between(-1, draw(4) == 0 ? 501 : 40)};
      case 3:
        return new int[] {3, draw(1000), draw(1000), between(draw(9) == 0 ? 0 : 1, draw(9) == 0 ? 11 : 4)};
      case 4:
        int session = days.next();
        int notice = draw(4) == 0 ? session - between(-1, 25) : Math.max(0, session - 21 - draw(9));
        int worth = draw(2) == 0 ? between(1, 9) : between(0, 100001);
        return new int[] {4, draw(spread), draw(spread), draw(3), worth, notice, session};
      case 5:
        int[] kinds = {0, 0, 0, 0, 0, 0, 1, 1, 1, 2, 3, 3, 4, 4, 5, 6};
        int kind = draw(60) == 0 ? between(-1, 7) : kinds[draw(kinds.length)];
        return new int[] {5, house(m), days.next(), kind, kind == 4 ? between(-1, 1440) : offence()};
      case 6:
        return new int[] {6, house(m), days.next(), draw(2) == 0 ? between(0, 9) : between(1, 100001)};
      case 7:
        return new int[] {7, house(m), days.next(), draw(30) == 0 ? between(-1, 4) : draw(4)};
      case 8:
        return new int[] {8, house(m), days.next(), draw(3) == 0 ? between(-1, 400) : between(0, 1440)};
      case 9:
        return new int[] {9, house(m), days.next()};
      case 10:
        return new int[] {10, draw(30) == 0 ? between(-1, 3) : draw(3), days.next(), between(0, draw(9) == 0 ? 2 : 1)};
      case 11:
        return new int[] {11, house(m), house(m)};
      case 12:
        return new int[] {12, days.next()};
      case 13:
        return new int[] {13, draw(9) == 0 ? 0 : between(1, 2147483645) + draw(2)};
      default:
        return new int[] {14, between(-1, 6)};
    }
  }

  private static int answer(TavernBench x, int[] c) {
    switch (c[0]) {
      case 0: return x.feast(c[1]);
      case 1: return x.law(c[1], c[2], c[3], c[4], c[5]);
      case 2: return x.rule(c[1], c[2]);
      case 3: return x.objector(c[1], c[2], c[3]);
      case 4: return x.ask(c[1], c[2], c[3], c[4], c[5], c[6]);
      case 5: return x.event(c[1], c[2], c[3], c[4]);
      case 6: return x.worth(c[1], c[2], c[3]);
      case 7: return x.on(c[1], c[2], c[3]);
      case 8: return x.open(c[1], c[2], c[3]);
      case 9: return x.minutes(c[1], c[2]);
      case 10: return x.lawOn(c[1], c[2], c[3]);
      case 11: return x.owes(c[1], c[2]);
      case 12: return x.visit(c[1]);
      case 13: return x.seed(c[1]);
      default: return x.count(c[1]);
    }
  }

  private static int answer(Model x, int[] c) {
    switch (c[0]) {
      case 0: return x.feast(c[1]);
      case 1: return x.law(c[1], c[2], c[3], c[4], c[5]);
      case 2: return x.rule(c[1], c[2]);
      case 3: return x.objector(c[1], c[2], c[3]);
      case 4: return x.ask(c[1], c[2], c[3], c[4], c[5], c[6]);
      case 5: return x.event(c[1], c[2], c[3], c[4]);
      case 6: return x.worth(c[1], c[2], c[3]);
      case 7: return x.on(c[1], c[2], c[3]);
      case 8: return x.open(c[1], c[2], c[3]);
      case 9: return x.minutes(c[1], c[2]);
      case 10: return x.lawOn(c[1], c[2], c[3]);
      case 11: return x.owes(c[1], c[2]);
      case 12: return x.visit(c[1]);
      case 13: return x.seed(c[1]);
      default: return x.count(c[1]);
    }
  }

  private static final String[] NAMES = {"feast", "law", "rule", "objector", "ask", "event", "worth", "on",
    "open", "minutes", "lawOn", "owes", "visit", "seed", "count"};

  // How often each call answered below -10, each of BAD, NO, FULL and NONE, 0, 1 and more, to see what was met.
  private static final int[][] met = new int[15][8];

  private static void meet(int call, int answer) {
    int column = answer < -10 ? 0 : answer < 0 ? -answer : answer == 0 ? 5 : answer == 1 ? 6 : 7;
    met[call][column]++;
  }

  private static boolean sameAnswers(int run) {
    drawn = run * 1000003L + 17;
    TavernBench bench = new TavernBench();
    Model model = new Model();
    Days days = new Days();
    int spread = new int[] {30, 200, 1000, 1001}[draw(4)];
    for (int i = 0; i < CALLS; i++) {
      int[] call = drawCall(model, days, spread);
      int want = answer(model, call);
      int got = answer(bench, call);
      meet(call[0], want);
      if (got != want) {
        StringBuilder text = new StringBuilder("run " + run + ", call " + i + ": " + NAMES[call[0]]);
        for (int k = 1; k < call.length; k++) text.append(k == 1 ? "(" : ", ").append(call[k]);
        System.out.println(text + ") answered " + got + ", due is " + want);
        return false;
      }
    }
    return true;
  }

  public static void main(String[] args) {
    int wrong = 0;
    for (int run = 0; run < RUNS; run++) {
      if (!sameAnswers(run)) wrong++;
    }
    System.out.println("ModelTests: " + RUNS + " runs, " + wrong + " not as due");
    if (args.length > 0) {
      for (int call = 0; call < 15; call++) {
        System.out.println(NAMES[call] + " " + java.util.Arrays.toString(met[call]));
      }
    }
    if (wrong != 0) System.exit(1);
  }
}
