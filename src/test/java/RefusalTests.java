// "BAD .. NO .. FULL. Of several the first; nothing changes then": each refused call is made on one of two
// towns that are alike, and all that can be asked or told of them afterwards must be answered alike.
public final class RefusalTests {
  private static final int BAD = -1, NO = -2, FULL = -3;
  private static final int FEAST = 0, LAW = 1, RULE = 2, OBJECTOR = 3, ASK = 4, EVENT = 5, WORTH = 6, ON = 7;
  private static final int OPEN = 8, MINUTES = 9, LAW_ON = 10, OWES = 11, VISIT = 12, SEED = 13, COUNT = 14;
  private static final String[] NAMES = {"feast", "law", "rule", "objector", "ask", "event", "worth", "on",
    "open", "minutes", "lawOn", "owes", "visit", "seed", "count"};
  private static final int[] PROMISES = {2, 3, 4, 5, 6, 7, 8, 9, 10, 11, 12, 13, 14, 15, 16};
  private static final int LEAST = Integer.MIN_VALUE, MOST = Integer.MAX_VALUE;
  private static int checks = 0;
  private static int wrong = 0;

  // Each row: the answer that is due, the call's number, its arguments. The town is neither empty nor full.
  private static final int[][] REFUSED = {
    {BAD, FEAST, -1}, {BAD, FEAST, 4000}, {BAD, FEAST, LEAST}, {BAD, FEAST, MOST}, {NO, FEAST, 30}, {NO, FEAST, 0},
    {BAD, LAW, -1, 0, 0, 0, 1}, {BAD, LAW, 4000, 0, 0, 0, 1}, {BAD, LAW, 0, -1, 0, 0, 1}, {BAD, LAW, 0, 3, 0, 0, 1},
    {BAD, LAW, 0, 0, -1, 0, 1}, {BAD, LAW, 0, 0, 8, 0, 1}, {BAD, LAW, 0, 0, 0, -1, 1}, {BAD, LAW, 0, 0, 0, 1440, 1441},
    {BAD, LAW, 0, 0, 0, 7, 7}, {BAD, LAW, 0, 0, 0, 7, 0}, {BAD, LAW, 0, 0, 0, 0, 1801}, {BAD, LAW, 0, 0, 0, 0, -1},
    {BAD, LAW, 0, 0, 0, MOST, LEAST}, {BAD, LAW, 0, 0, 0, MOST, MOST}, {BAD, LAW, 0, 0, 0, -1, 0},
    {BAD, RULE, -1, 5}, {BAD, RULE, 2, 5}, {BAD, RULE, 0, -1}, {BAD, RULE, 0, 201}, {BAD, RULE, 1, -1},
    {BAD, RULE, 1, 501}, {BAD, RULE, 0, MOST}, {BAD, RULE, 1, LEAST},
    {BAD, OBJECTOR, -1, 0, 1}, {BAD, OBJECTOR, 1000, 0, 1}, {BAD, OBJECTOR, 0, -1, 1}, {BAD, OBJECTOR, 0, 1000, 1},
    {BAD, OBJECTOR, 0, 0, 0}, {BAD, OBJECTOR, 0, 0, 11}, {BAD, OBJECTOR, 0, 0, LEAST},
    {BAD, ASK, -1, 0, 0, 1, 0, 90}, {BAD, ASK, 1000, 0, 0, 1, 0, 90}, {BAD, ASK, 0, -1, 0, 1, 0, 90},
    {BAD, ASK, 0, 1000, 0, 1, 0, 90}, {BAD, ASK, 0, 0, -1, 1, 0, 90}, {BAD, ASK, 0, 0, 3, 1, 0, 90},
    {BAD, ASK, 0, 0, 0, 0, 0, 90}, {BAD, ASK, 0, 0, 0, 100001, 0, 90}, {BAD, ASK, 0, 0, 0, 1, -1, 90},
    {BAD, ASK, 0, 0, 0, 1, 0, 4000}, {BAD, ASK, 0, 0, 0, 1, 91, 90}, {BAD, ASK, 0, 0, 0, 1, LEAST, 90},
    {BAD, EVENT, -1, 90, 2, 0}, {BAD, EVENT, 5, 90, 2, 0}, {BAD, EVENT, 1, -1, 2, 0}, {BAD, EVENT, 1, 4000, 2, 0},
    {BAD, EVENT, 1, 90, -1, 0}, {BAD, EVENT, 1, 90, 7, 0}, {BAD, EVENT, 1, 90, 0, -1}, {BAD, EVENT, 1, 90, 0, 100},
    {BAD, EVENT, 0, 90, 1, -1}, {BAD, EVENT, 0, 90, 1, 100}, {BAD, EVENT, 1, 90, 4, -1}, {BAD, EVENT, 1, 90, 4, 1440},
    {NO, EVENT, 1, 39, 2, 0}, {NO, EVENT, 1, 39, 4, 0}, {NO, EVENT, 1, 39, 6, 0}, {NO, EVENT, 1, 39, 0, 50},
    {NO, EVENT, 0, 39, 1, 1}, {NO, EVENT, 0, 41, 0, 1}, {NO, EVENT, 1, 90, 1, 1}, {NO, EVENT, 0, 90, 1, 9},
    {BAD, WORTH, -1, 90, 3}, {BAD, WORTH, 5, 90, 3}, {BAD, WORTH, 1, -1, 3}, {BAD, WORTH, 1, 4000, 3},
    {BAD, WORTH, 1, 90, 0}, {BAD, WORTH, 1, 90, 100001},
    {BAD, ON, -1, 90, 0}, {BAD, ON, 5, 90, 0}, {BAD, ON, 0, -1, 0}, {BAD, ON, 0, 4000, 0}, {BAD, ON, 0, 90, -1},
    {BAD, ON, 0, 90, 4}, {BAD, OPEN, -1, 90, 0}, {BAD, OPEN, 5, 90, 0}, {BAD, OPEN, 0, -1, 0}, {BAD, OPEN, 0, 4000, 0},
    {BAD, OPEN, 0, 90, -1}, {BAD, OPEN, 0, 90, 1440}, {BAD, MINUTES, -1, 90}, {BAD, MINUTES, 5, 90},
    {BAD, MINUTES, 0, -1}, {BAD, MINUTES, 0, 4000}, {BAD, LAW_ON, -1, 90, 0}, {BAD, LAW_ON, 3, 90, 0},
    {BAD, LAW_ON, 0, -1, 0}, {BAD, LAW_ON, 0, 4000, 0}, {BAD, LAW_ON, 0, 90, -1}, {BAD, LAW_ON, 0, 90, 2},
    {BAD, OWES, -1, 3}, {BAD, OWES, 5, 3}, {BAD, OWES, 0, -1}, {BAD, OWES, 0, 5}, {NO, OWES, 0, 1}, {NO, OWES, 1, 1},
    {BAD, VISIT, -1}, {BAD, VISIT, 4000}, {NO, VISIT, 39}, {NO, VISIT, 0},
    {BAD, SEED, 0}, {BAD, SEED, -1}, {BAD, SEED, LEAST}, {BAD, SEED, MOST}, {BAD, COUNT, -1}, {BAD, COUNT, 6},
  };

  // What only asks changes nothing, either.
  private static final int[][] ASKED = {
    {1, ON, 1, 40, 0}, {3, ON, 0, 60, 1}, {700, ON, 2, 61, 2}, {10, ON, 0, 40, 3}, {1, OPEN, 1, 42, 300},
    {1400, MINUTES, 1, 42}, {100, LAW_ON, 0, 42, 0}, {1500, LAW_ON, 0, 42, 1}, {23, OWES, 1, 3}, {5, COUNT, 0},
  };

  // The town is full in all that can be full: house 0 has 16 events and 8 worths.
  private static final int[][] FULL_UP = {
    {FULL, FEAST, 300}, {NO, FEAST, 101}, {BAD, FEAST, 4000},
    {FULL, LAW, 0, 0, 0, 0, 0}, {FULL, LAW, 3999, 2, 7, 0, 1800}, {BAD, LAW, 0, 0, 0, 1, 1},
    {FULL, OBJECTOR, 0, 0, 10}, {BAD, OBJECTOR, 0, 0, 11},
    {FULL, ASK, 999, 999, 0, 1, 0, 90}, {FULL, ASK, 0, 0, 0, 1, 90, 90}, {BAD, ASK, 0, 0, 0, 1, 91, 90},
    {FULL, EVENT, 0, 90, 0, 50}, {FULL, EVENT, 0, 90, 1, 1}, {FULL, EVENT, 0, 90, 2, 0}, {FULL, EVENT, 0, 90, 3, 0},
    {FULL, EVENT, 0, 90, 4, 0}, {FULL, EVENT, 0, 90, 5, 0}, {FULL, EVENT, 0, 90, 6, 0}, {NO, EVENT, 0, 39, 6, 0},
    {NO, EVENT, 0, 90, 0, 1}, {NO, EVENT, 0, 90, 1, 2}, {BAD, EVENT, 0, 39, 4, 1440},
    {FULL, WORTH, 0, 90, 9}, {FULL, WORTH, 0, 0, 9}, {BAD, WORTH, 0, 90, 0},
  };

  private static int answer(TavernBench x, int[] c) {
    switch (c[1]) {
      case FEAST: return x.feast(c[2]);
      case LAW: return x.law(c[2], c[3], c[4], c[5], c[6]);
      case RULE: return x.rule(c[2], c[3]);
      case OBJECTOR: return x.objector(c[2], c[3], c[4]);
      case ASK: return x.ask(c[2], c[3], c[4], c[5], c[6], c[7]);
      case EVENT: return x.event(c[2], c[3], c[4], c[5]);
      case WORTH: return x.worth(c[2], c[3], c[4]);
      case ON: return x.on(c[2], c[3], c[4]);
      case OPEN: return x.open(c[2], c[3], c[4]);
      case MINUTES: return x.minutes(c[2], c[3]);
      case LAW_ON: return x.lawOn(c[2], c[3], c[4]);
      case OWES: return x.owes(c[2], c[3]);
      case VISIT: return x.visit(c[2]);
      case SEED: return x.seed(c[2]);
      default: return x.count(c[2]);
    }
  }

  private static String text(int[] c) {
    StringBuilder text = new StringBuilder("promise " + PROMISES[c[1]] + ": " + NAMES[c[1]] + "(");
    for (int i = 2; i < c.length; i++) {
      text.append(i == 2 ? "" : ", ").append(c[i]);
    }
    return text.append(")").toString();
  }

  private static void due(String what, int got, int want) {
    checks++;
    if (got != want) {
      wrong++;
      System.out.println(what + " answered " + got + ", due is " + want);
    }
  }

  private static TavernBench someTown() {
    TavernBench x = new TavernBench();
    x.feast(30);
    x.feast(0);
    for (int weekday = 0; weekday < 8; weekday++) {
      x.law(0, 0, weekday, 100, 1500);
    }
    x.rule(0, 15);
    x.rule(1, 60);
    x.objector(500, 500, 9);
    for (int i = 0; i < 5; i++) {
      x.ask(i * 40, 0, 0, 10 + i / 3 * 5, 0, 40);
    }
    x.ask(0, 0, 0, 1, 30, 40);
    x.event(0, 41, 0, 1);
    x.event(0, 42, 0, 2);
    x.event(0, 43, 0, 3);
    x.event(0, 70, 1, 3);
    x.event(2, 60, 4, 700);
    x.event(3, 80, 6, 0);
    x.event(4, 45, 2, 0);
    x.worth(1, 75, 20);
    x.seed(12345);
    x.visit(40);
    x.visit(40);
    return x;
  }

  private static TavernBench fullTown() {
    TavernBench x = new TavernBench();
    x.rule(0, 5);
    for (int i = 0; i < 20; i++) {
      x.feast(100 + i);
      x.objector(900, 900, 1);
    }
    for (int i = 0; i < 40; i++) {
      x.law(i, 0, i % 8, i, 1400 + i);
    }
    for (int i = 0; i < 30; i++) {
      x.ask(i * 20, 0, 0, 10, 0, 40);
    }
    x.event(0, 60, 0, 1);
    for (int i = 1; i < 16; i++) {
      x.event(0, 60 + i, 4 + i % 2, 1000 + i);
    }
    for (int i = 1; i < 8; i++) {
      x.worth(0, 50 + i, 20 + i);
    }
    x.visit(40);
    return x;
  }

  private static TavernBench town(boolean full) {
    return full ? fullTown() : someTown();
  }

  // Asks first, then tells more: a trace of a refused call could show in either.
  private static int[][] probes() {
    int[][] asked = new int[6 + 5 * 3 * 7 + 16 + 8 + 12][];
    int n = 0;
    for (int what = 0; what < 6; what++) {
      asked[n++] = new int[] {0, COUNT, what};
    }
    for (int house = 0; house < 5; house++) {
      for (int day : new int[] {39, 42, 90}) {
        for (int what = 0; what < 4; what++) {
          asked[n++] = new int[] {0, ON, house, day, what};
        }
        asked[n++] = new int[] {0, MINUTES, house, day};
        asked[n++] = new int[] {0, OPEN, house, day, 10};
        asked[n++] = new int[] {0, OWES, house, 3};
      }
    }
    for (int day = 0; day < 8; day++) {
      asked[n++] = new int[] {0, LAW_ON, 0, 90 + day, 0};
      asked[n++] = new int[] {0, LAW_ON, 0, 90 + day, 1};
    }
    for (int i = 0; i < 8; i++) {
      asked[n++] = new int[] {0, VISIT, 41};
    }
    int[][] told = {{0, RULE, 0, 25}, {0, RULE, 1, 70}, {0, FEAST, 77}, {0, LAW, 0, 0, 1, 5, 6}, {0, OBJECTOR, 9, 9, 5},
      {0, ASK, 700, 700, 0, 1, 0, 90}, {0, ASK, 0, 0, 0, 1, 0, 90}, {0, EVENT, 0, 95, 1, 1}, {0, EVENT, 1, 95, 0, 50},
      {0, EVENT, 1, 95, 6, 0}, {0, WORTH, 1, 90, 3}, {0, OWES, 2, 1}};
    System.arraycopy(told, 0, asked, n, told.length);
    return asked;
  }

  private static void changesNothing(boolean full, int[] call, int[][] probes) {
    TavernBench touched = town(full);
    TavernBench twin = town(full);
    due(text(call), answer(touched, call), call[0]);
    due(text(call) + ", the second time,", answer(touched, call), call[0]);
    for (int[] probe : probes) {
      due(text(call) + " behind it, " + text(probe), answer(touched, probe), answer(twin, probe));
    }
  }

  // Of an ask that the session refuses its number alone is kept.
  private static void refusedBySession(int[] call, int[][] probes) {
    TavernBench touched = someTown();
    TavernBench twin = someTown();
    due(text(call), answer(touched, call), call[0]);
    due(text(call) + " is counted", touched.count(5), twin.count(5) + 1);
    for (int[] probe : probes) {
      if (probe[1] != COUNT || probe[2] != 5) {
        due(text(call) + " behind it, " + text(probe), answer(touched, probe), answer(twin, probe));
      }
    }
  }

  // An empty town refuses what asks for what is not there, and stays empty.
  private static void emptyTown() {
    TavernBench x = new TavernBench();
    int[][] calls = {{BAD, EVENT, 0, 90, 2, 0}, {BAD, WORTH, 0, 90, 1}, {BAD, ON, 0, 90, 0}, {BAD, OPEN, 0, 90, 0},
      {BAD, MINUTES, 0, 90}, {BAD, OWES, 0, 0}, {NO, VISIT, 0}, {NO, VISIT, 3999}, {0, LAW_ON, 0, 0, 0},
      {0, LAW_ON, 2, 3999, 1}, {0, COUNT, 0}, {0, COUNT, 1}, {0, COUNT, 2}, {0, COUNT, 3}, {0, COUNT, 4},
      {0, COUNT, 5}};
    for (int[] call : calls) {
      due("empty: " + text(call), answer(x, call), call[0]);
    }
    for (int i = 0; i < 7; i++) {
      x.ask(i * 30, 0, 0, 1, 0, 40);
    }
    due("SEED was 1 still", x.visit(40), 16807 % 7);
  }

  public static void main(String[] args) {
    int[][] probes = probes();
    for (int[] call : REFUSED) {
      changesNothing(false, call, probes);
    }
    for (int[] call : ASKED) {
      changesNothing(false, call, probes);
    }
    for (int[] call : FULL_UP) {
      changesNothing(true, call, probes);
    }
    refusedBySession(new int[] {-11, ASK, 700, 700, 0, 1, 70, 90}, probes);
    refusedBySession(new int[] {-12, ASK, 40, 14, 0, 1, 0, 90}, probes);
    TavernBench heard = someTown();
    heard.objector(500, 501, 2);
    due("promise 6: objected", heard.ask(500, 500, 0, 1, 0, 90), -13);
    due("promise 6: no house of it", heard.count(0), 5);
    emptyTown();
    System.out.println("RefusalTests: " + checks + " answers looked at, " + wrong + " not as due");
    if (wrong != 0) {
      System.exit(1);
    }
  }
}
