// Each sentence of the document that names a boundary: the last value that is taken and the first that is not,
// at both ends; the empty and the full, and the call behind the full one; of several grounds the first.
// (That a refused call changes nothing is looked at in RefusalTests.)
public final class BoundaryTests {
  private static final int BAD = -1, NO = -2, FULL = -3, NONE = -4;
  private static final int LEAST = Integer.MIN_VALUE, MOST = Integer.MAX_VALUE;
  private static int checks = 0;
  private static int wrong = 0;
  private static String sentence = "";

  private static void of(int promise, String words) {
    sentence = "promise " + promise + ", '" + words + "': ";
  }

  private static void due(String call, int got, int want) {
    checks++;
    if (got != want) {
      wrong++;
      System.out.println(sentence + call + " answered " + got + ", due is " + want);
    }
  }

  // Numbers that are none of from .. to, the nearest ones among them.
  private static int[] outside(int from, int to) {
    return new int[] {LEAST, from - 1, to + 1, MOST};
  }

  private static TavernBench houseFrom(int day) {
    TavernBench x = new TavernBench();
    due("the house's ask", x.ask(0, 0, 0, 100, 0, day), 0);
    return x;
  }

  // Houses 0 .. of like worth, granted on day 100, far enough from each other.
  private static TavernBench row(int houses, int worth) {
    TavernBench x = new TavernBench();
    for (int i = 0; i < houses; i++) {
      due("ask of house " + i, x.ask(33 * i, 0, 0, worth, 0, 100), i);
    }
    return x;
  }

  private static void hours(TavernBench x, int f, int t) {
    for (int weekday = 0; weekday < 8; weekday++) {
      x.law(0, 0, weekday, f, t);
    }
  }

  private static void days() {
    for (int day : outside(0, 3999)) {
      TavernBench x = houseFrom(21);
      of(2, "DAYS are 0 to 3999");
      due("feast(" + day + ")", x.feast(day), BAD);
      of(3, "DAYS are 0 to 3999");
      due("law, day " + day, x.law(day, 0, 0, 0, 1), BAD);
      of(6, "DAYS are 0 to 3999");
      due("ask, notice " + day, x.ask(500, 0, 0, 1, day, 3999), BAD);
      due("ask, session " + day, x.ask(500, 0, 0, 1, 0, day), BAD);
      due("ask, both " + day, x.ask(500, 0, 0, 1, day, day), BAD);
      of(7, "DAYS are 0 to 3999");
      due("event, day " + day, x.event(0, day, 6, 0), BAD);
      of(8, "DAYS are 0 to 3999");
      due("worth, day " + day, x.worth(0, day, 1), BAD);
      of(9, "DAYS are 0 to 3999");
      for (int what = 0; what < 4; what++) {
        due("on, day " + day + ", what " + what, x.on(0, day, what), BAD);
      }
      of(10, "DAYS are 0 to 3999");
      due("open, day " + day, x.open(0, day, 0), BAD);
      of(11, "DAYS are 0 to 3999");
      due("minutes, day " + day, x.minutes(0, day), BAD);
      of(12, "DAYS are 0 to 3999");
      due("lawOn, day " + day, x.lawOn(0, day, 0), BAD);
      of(14, "DAYS are 0 to 3999");
      due("visit(" + day + ")", x.visit(day), BAD);
    }
  }

  private static void firstDay() {
    TavernBench x = houseFrom(21);
    of(2, "DAYS are 0 to 3999");
    due("feast(0)", x.feast(0), 1);
    of(3, "DAYS are 0 to 3999");
    due("law, day 0", x.law(0, 0, 7, 2, 3), 1);
    of(6, "DAYS are 0 to 3999");
    due("ask, notice 0 and session 0: late, not bad", x.ask(500, 0, 0, 1, 0, 0), -11);
    of(7, "DAYS are 0 to 3999");
    due("event, day 0: ahead of the grant, not bad", x.event(0, 0, 6, 0), NO);
    of(8, "DAYS are 0 to 3999");
    due("worth, day 0", x.worth(0, 0, 5), 2);
    of(9, "DAYS are 0 to 3999");
    due("on, day 0", x.on(0, 0, 0), 0);
    due("on, day 0, OFFENCES", x.on(0, 0, 1), 0);
    due("on, day 0, CONDITION", x.on(0, 0, 2), NONE);
    due("on, day 0, WORTH", x.on(0, 0, 3), 100);
    of(10, "DAYS are 0 to 3999");
    due("open, day 0", x.open(0, 0, 0), 0);
    of(11, "DAYS are 0 to 3999");
    due("minutes, day 0", x.minutes(0, 0), 0);
    of(12, "DAYS are 0 to 3999");
    due("lawOn, day 0", x.lawOn(0, 0, 1), 3);
    of(14, "DAYS are 0 to 3999");
    due("visit(0): none has a LICENCE, not bad", x.visit(0), NO);
  }

  private static void lastDay() {
    TavernBench x = houseFrom(3999);
    of(2, "DAYS are 0 to 3999");
    due("feast(3999)", x.feast(3999), 1);
    of(3, "DAYS are 0 to 3999");
    due("law, day 3999", x.law(3999, 0, 7, 4, 9), 1);
    of(6, "DAYS are 0 to 3999");
    due("ask, notice and session 3999: late, not bad", x.ask(500, 0, 0, 1, 3999, 3999), -11);
    due("ask, notice 3978, session 3999", x.ask(500, 0, 0, 1, 3978, 3999), 1);
    of(7, "DAYS are 0 to 3999");
    due("event, day 3999", x.event(0, 3999, 4, 7), 1);
    of(8, "DAYS are 0 to 3999");
    due("worth, day 3999", x.worth(0, 3999, 5), 2);
    of(9, "DAYS are 0 to 3999");
    due("on, day 3999", x.on(0, 3999, 0), 1);
    due("on, day 3999, CONDITION", x.on(0, 3999, 2), 7);
    due("on, day 3999, WORTH", x.on(0, 3999, 3), 5);
    due("on, day 3998", x.on(0, 3998, 0), 0);
    of(10, "DAYS are 0 to 3999");
    due("open, day 3999", x.open(0, 3999, 4), 1);
    of(11, "DAYS are 0 to 3999");
    due("minutes, day 3999", x.minutes(0, 3999), 3);
    of(12, "DAYS are 0 to 3999");
    due("lawOn, day 3999", x.lawOn(0, 3999, 1), 9);
    of(14, "DAYS are 0 to 3999");
    due("visit(3999)", x.visit(3999), 16807 % 2);
  }

  private static void weekdays() {
    of(12, "DAY d has the WEEKDAY d modulo 7");
    TavernBench x = new TavernBench();
    for (int weekday = 0; weekday < 8; weekday++) {
      x.law(0, 1, weekday, weekday, 100 + weekday);
    }
    for (int day = 0; day < 15; day++) {
      due("lawOn, day " + day, x.lawOn(1, day, 0), day % 7);
    }
    due("day 3999 has 2", x.lawOn(1, 3999, 1), 102);
    due("day 3996 has 6", x.lawOn(1, 3996, 1), 106);
    of(2, "a FEAST is a DAY told so, its WEEKDAY is 7");
    x.feast(6);
    x.feast(0);
    due("day 6, f", x.lawOn(1, 6, 0), 7);
    due("day 6, t", x.lawOn(1, 6, 1), 107);
    due("day 0", x.lawOn(1, 0, 1), 107);
    due("day 5, none", x.lawOn(1, 5, 1), 105);
    due("day 7, none", x.lawOn(1, 7, 1), 100);
    due("day 13, none", x.lawOn(1, 13, 1), 106);
    x.feast(3999);
    due("day 3999", x.lawOn(1, 3999, 1), 107);
    of(2, "20 at most: the last told is one, too");
    for (int i = 3; i < 20; i++) {
      due("feast " + i, x.feast(50 + i), i + 1);
    }
    due("the day told last", x.lawOn(1, 69, 1), 107);
    due("the feast behind the full one", x.feast(70), FULL);
    due("is none", x.lawOn(1, 70, 1), 100);
  }

  private static void feastOrder() {
    of(2, "BAD; NO: it is one; FULL");
    TavernBench x = new TavernBench();
    due("first", x.feast(5), 1);
    due("it is one", x.feast(5), NO);
    for (int i = 1; i < 20; i++) {
      due("feast " + i, x.feast(100 + i), i + 1);
    }
    due("full", x.feast(6), FULL);
    due("full again", x.feast(6), FULL);
    due("full, the first is one", x.feast(5), NO);
    due("full, the last is one", x.feast(119), NO);
    due("full and bad", x.feast(-1), BAD);
    due("full and bad", x.feast(4000), BAD);
    of(16, "2 FEASTS");
    due("count(2)", x.count(2), 20);
  }

  private static void lawArguments() {
    TavernBench x = new TavernBench();
    of(3, "for a KIND (0 to 2)");
    for (int kind : outside(0, 2)) {
      due("law, kind " + kind, x.law(0, kind, 0, 0, 1), BAD);
    }
    due("law, kind 0", x.law(0, 0, 0, 1, 2), 1);
    due("law, kind 2", x.law(0, 2, 0, 3, 4), 2);
    due("of kind 0", x.lawOn(0, 0, 1), 2);
    due("of kind 1 none", x.lawOn(1, 0, 1), 0);
    due("of kind 2", x.lawOn(2, 0, 1), 4);
    of(3, "and a WEEKDAY (0 to 7)");
    for (int weekday : outside(0, 7)) {
      due("law, weekday " + weekday, x.law(0, 0, weekday, 0, 1), BAD);
    }
    due("law, weekday 0", x.law(0, 1, 0, 5, 6), 3);
    due("law, weekday 7", x.law(0, 1, 7, 7, 8), 4);
    due("weekday 0", x.lawOn(1, 7, 1), 6);
    due("weekday 7 is no day of the week", x.lawOn(1, 8, 1), 0);
    x.feast(8);
    due("weekday 7 is a feast's", x.lawOn(1, 8, 1), 8);
  }

  private static void lawHours() {
    TavernBench x = new TavernBench();
    of(3, "OPEN from minute f (0 to 1439)");
    for (int f : outside(0, 1439)) {
      due("law, f " + f, x.law(0, 0, 0, f, 1800), BAD);
      due("law, f " + f + " and t", x.law(0, 0, 0, f, f + 1), BAD);
    }
    due("f 0", x.law(0, 0, 0, 0, 1800), 1);
    due("f 1439", x.law(0, 0, 0, 1439, 1800), 2);
    of(3, "f below t");
    int[] fs = {1, 2, 700, 1438, 1439};
    for (int f : fs) {
      due("f " + f + ", t the same", x.law(0, 0, 0, f, f), BAD);
      due("f " + f + ", t one less", x.law(0, 0, 0, f, f - 1), BAD);
      due("f " + f + ", t least", x.law(0, 0, 0, f, LEAST), BAD);
    }
    due("f 0, t -1", x.law(0, 0, 0, 0, -1), BAD);
    due("f 0, t 1", x.law(0, 0, 0, 0, 1), 3);
    due("f 700, t 701", x.law(0, 0, 0, 700, 701), 4);
    due("f 1439, t 1440", x.law(0, 0, 0, 1439, 1440), 5);
    of(3, "t to 1800");
    due("t 1800", x.law(0, 0, 0, 1, 1800), 6);
    due("t 1801", x.law(0, 0, 0, 1, 1801), BAD);
    due("t most", x.law(0, 0, 0, 0, MOST), BAD);
    of(3, "or SHUT (f and t 0)");
    due("f and t 0", x.law(0, 0, 0, 0, 0), 7);
    due("it counts", x.lawOn(0, 0, 1), 0);
    due("t 0 alone", x.law(0, 0, 0, 1, 0), BAD);
    due("f -1, t 0", x.law(0, 0, 0, -1, 0), BAD);
  }

  private static void lawsFull() {
    of(3, "LAWS, 40 at most");
    TavernBench x = new TavernBench();
    due("none yet", x.count(1), 0);
    for (int i = 1; i <= 39; i++) {
      due("law " + i, x.law(0, 1, 0, i, i + 1), i);
    }
    due("law 40", x.law(0, 0, 0, 10, 11), 40);
    due("the last told counts", x.lawOn(0, 0, 0), 10);
    due("law 41", x.law(0, 0, 0, 20, 21), FULL);
    due("does not count", x.lawOn(0, 0, 0), 10);
    due("law 42", x.law(0, 0, 0, 0, 0), FULL);
    due("how many", x.count(1), 40);
    of(3, "BAD; FULL");
    due("full and bad, day", x.law(4000, 0, 0, 0, 0), BAD);
    due("full and bad, kind", x.law(0, 3, 0, 0, 0), BAD);
    due("full and bad, weekday", x.law(0, 0, 8, 0, 0), BAD);
    due("full and bad, t", x.law(0, 0, 0, 0, 1801), BAD);
  }

  private static void lawInForce() {
    of(12, "from a DAY on");
    TavernBench x = new TavernBench();
    x.law(700, 0, 0, 1, 2);
    due("the week ahead", x.lawOn(0, 693, 1), 0);
    due("on that day", x.lawOn(0, 700, 1), 2);
    due("on the last of that weekday", x.lawOn(0, 3997, 1), 2);
    of(12, "that with the latest DAY counts");
    x.law(699, 0, 0, 3, 4);
    due("told last of an earlier day, on 700", x.lawOn(0, 700, 1), 2);
    due("on 693 neither", x.lawOn(0, 693, 1), 0);
    x.law(701, 0, 0, 5, 6);
    due("a later day is not in force on 700", x.lawOn(0, 700, 1), 2);
    due("it is on 707", x.lawOn(0, 707, 1), 6);
    of(12, "of one DAY that told last");
    x.law(701, 0, 0, 7, 8);
    due("of 701", x.lawOn(0, 707, 0), 7);
    x.law(700, 0, 0, 0, 0);
    due("SHUT told last of 700", x.lawOn(0, 700, 1), 0);
    due("of 701 still", x.lawOn(0, 707, 1), 8);
    x.law(701, 0, 0, 0, 0);
    due("SHUT counts as any other", x.lawOn(0, 707, 1), 0);
    of(12, "of a KIND and WEEKDAY");
    x.law(702, 1, 0, 9, 10);
    x.law(702, 0, 1, 11, 12);
    due("another kind's and weekday's do not count", x.lawOn(0, 707, 1), 0);
    of(12, "without any: SHUT");
    due("f", x.lawOn(2, 3999, 0), 0);
    due("t", x.lawOn(2, 3999, 1), 0);
  }

  private static void lawOnArguments() {
    of(12, "f (what = 0), t (1). BAD");
    TavernBench x = new TavernBench();
    x.law(0, 2, 0, 1439, 1800);
    for (int what : outside(0, 1)) {
      due("lawOn, what " + what, x.lawOn(2, 0, what), BAD);
    }
    for (int kind : outside(0, 2)) {
      due("lawOn, kind " + kind, x.lawOn(kind, 0, 0), BAD);
      due("lawOn, kind " + kind, x.lawOn(kind, 0, 1), BAD);
    }
    due("f", x.lawOn(2, 0, 0), 1439);
    due("t", x.lawOn(2, 0, 1), 1800);
    due("kind 0", x.lawOn(0, 0, 1), 0);
  }

  private static void ruleBounds() {
    TavernBench x = new TavernBench();
    of(4, "NEAR (0 to 200; 20 at first)");
    due("200", x.rule(0, 200), 20);
    due("0", x.rule(0, 0), 200);
    for (int v : outside(0, 200)) {
      due("near " + v, x.rule(0, v), BAD);
    }
    due("what it was", x.rule(0, 1), 0);
    of(4, "HEARD (0 to 500; 100 at first)");
    due("500", x.rule(1, 500), 100);
    due("0", x.rule(1, 0), 500);
    for (int v : outside(0, 500)) {
      due("heard " + v, x.rule(1, v), BAD);
    }
    due("what it was", x.rule(1, 1), 0);
    of(4, "NEAR (what = 0), HEARD (1). BAD");
    for (int what : outside(0, 1)) {
      due("what " + what, x.rule(what, 7), BAD);
    }
    due("near, not heard", x.rule(0, 2), 1);
    due("heard, not near", x.rule(1, 3), 1);
    due("near", x.rule(0, 2), 2);
    due("heard", x.rule(1, 3), 3);
  }

  private static void objectorBounds() {
    TavernBench x = new TavernBench();
    of(5, "PLACES are x, y, 0 to 999");
    for (int n : outside(0, 999)) {
      due("objector, x " + n, x.objector(n, 0, 1), BAD);
      due("objector, y " + n, x.objector(0, n, 1), BAD);
    }
    due("0, 0", x.objector(0, 0, 1), 1);
    due("999, 0", x.objector(999, 0, 1), 2);
    due("0, 999", x.objector(0, 999, 1), 3);
    of(5, "a WEIGHT (1 to 10)");
    for (int weight : outside(1, 10)) {
      due("objector, weight " + weight, x.objector(0, 0, weight), BAD);
    }
    due("weight 1", x.objector(0, 0, 1), 4);
    due("weight 10", x.objector(0, 0, 10), 5);
    of(5, "OBJECTORS, 20 at most");
    for (int i = 6; i < 20; i++) {
      due("objector " + i, x.objector(0, 0, 1), i);
    }
    due("not yet heard of", x.ask(500, 500, 0, 1, 0, 100), 0);
    due("objector 20", x.objector(600, 600, 10), 20);
    due("objector 21", x.objector(600, 600, 10), FULL);
    due("is none: weight 10", x.ask(600, 600, 0, 1, 0, 100), 1);
    due("objector 22", x.objector(600, 600, 1), FULL);
    due("how many", x.count(3), 20);
    of(5, "BAD; FULL");
    due("full and bad", x.objector(1000, 0, 1), BAD);
    due("full and bad", x.objector(0, 1000, 1), BAD);
    due("full and bad", x.objector(0, 0, 11), BAD);
  }

  private static void objectorTwentieth() {
    of(5, "OBJECTORS, 20 at most: each is one");
    TavernBench x = new TavernBench();
    for (int i = 1; i < 20; i++) {
      x.objector(0, 0, 1);
    }
    due("objector 20", x.objector(600, 600, 1), 20);
    due("the nineteen", x.ask(0, 0, 0, 1, 0, 100), -13);
    TavernBench y = new TavernBench();
    y.objector(600, 600, 10);
    for (int i = 1; i < 19; i++) {
      y.objector(0, 0, 1);
    }
    due("the first alone", y.ask(600, 600, 0, 1, 0, 100), 0);
    due("objector 20", y.objector(600, 640, 1), 20);
    due("the first and the last", y.ask(600, 620, 0, 1, 0, 100), -13);
  }

  private static void askBounds() {
    TavernBench x = new TavernBench();
    x.rule(0, 1);
    of(6, "PLACES are x, y, 0 to 999");
    for (int n : outside(0, 999)) {
      due("ask, x " + n, x.ask(n, 0, 0, 1, 0, 21), BAD);
      due("ask, y " + n, x.ask(0, n, 0, 1, 0, 21), BAD);
    }
    due("0, 0", x.ask(0, 0, 0, 1, 0, 21), 0);
    due("999, 0", x.ask(999, 0, 0, 1, 0, 21), 1);
    due("0, 999", x.ask(0, 999, 0, 1, 0, 21), 2);
    of(6, "a KIND (0 to 2)");
    for (int kind : outside(0, 2)) {
      due("ask, kind " + kind, x.ask(500, 0, kind, 1, 0, 21), BAD);
    }
    due("kind 0", x.ask(500, 1, 0, 1, 0, 21), 3);
    due("kind 2", x.ask(500, 2, 2, 1, 0, 21), 4);
    of(6, "a WORTH (1 to 100000)");
    for (int worth : outside(1, 100000)) {
      due("ask, worth " + worth, x.ask(500, 0, 0, worth, 0, 21), BAD);
    }
    due("worth 1", x.ask(500, 3, 0, 1, 0, 21), 5);
    due("worth 100000", x.ask(500, 4, 0, 100000, 0, 21), 6);
    due("worth 1", x.on(5, 21, 3), 1);
    due("worth 100000", x.on(6, 21, 3), 100000);
    of(6, "BAD (a NOTICE behind the SESSION, too)");
    due("one behind", x.ask(500, 5, 0, 1, 101, 100), BAD);
    due("the same day is late", x.ask(500, 5, 0, 1, 100, 100), -11);
    due("the last behind the first", x.ask(500, 5, 0, 1, 3999, 0), BAD);
    due("one behind, late and crowded were it judged", x.ask(0, 0, 0, 1, 22, 21), BAD);
  }

  private static void askFull() {
    of(6, "HOUSES 0, 1, .. as they come, 30 at most");
    TavernBench x = new TavernBench();
    for (int i = 0; i < 29; i++) {
      due("house " + i, x.ask(i * 30, 0, 0, 1, 0, 100), i);
      due("a refused ask takes no number", x.ask(i * 30, 0, 0, 1, 0, 100), -12);
    }
    due("house 29 is none yet", x.on(29, 100, 0), BAD);
    due("house 29", x.ask(900, 0, 0, 1, 0, 100), 29);
    due("it is one", x.on(29, 100, 0), 1);
    due("house 30", x.ask(950, 0, 0, 1, 0, 100), FULL);
    due("is none", x.on(30, 100, 0), BAD);
    due("how many", x.count(0), 30);
    due("how many were refused", x.count(5), 29);
    of(6, "FULL: 30 (ahead of judging)");
    due("full and late", x.ask(950, 0, 0, 1, 99, 100), FULL);
    due("full and crowded", x.ask(0, 0, 0, 1, 0, 100), FULL);
    x.objector(999, 999, 10);
    x.objector(999, 999, 10);
    due("full and objected", x.ask(999, 999, 0, 1, 0, 100), FULL);
    due("none of them was judged", x.count(5), 29);
    of(6, "BAD; FULL");
    due("full and bad", x.ask(950, 0, 0, 0, 0, 100), BAD);
    due("full and the notice behind", x.ask(950, 0, 0, 1, 101, 100), BAD);
  }

  private static void askLate() {
    of(6, "LATE: NOTICE is less than 21 DAYS ahead");
    TavernBench x = new TavernBench();
    due("notice 0, session 20", x.ask(0, 0, 0, 1, 0, 20), -11);
    due("notice 3979, session 3999", x.ask(0, 0, 0, 1, 3979, 3999), -11);
    due("notice 0, session 0", x.ask(0, 0, 0, 1, 0, 0), -11);
    due("none is granted", x.count(0), 0);
    due("notice 0, session 21", x.ask(0, 0, 0, 1, 0, 21), 0);
    due("notice 3978, session 3999", x.ask(100, 0, 0, 1, 3978, 3999), 1);
    due("notice 0, session 3999", x.ask(200, 0, 0, 1, 0, 3999), 2);
    of(6, "what it was refused for, the first that fits");
    x.objector(0, 0, 10);
    x.objector(0, 0, 1);
    due("late, crowded and objected", x.ask(0, 0, 0, 1, 2, 22), -11);
    due("late and objected", x.ask(0, 50, 0, 1, 2, 22), -11);
    due("crowded and objected", x.ask(0, 0, 0, 1, 1, 22), -12);
    due("objected", x.ask(0, 50, 0, 1, 1, 22), -13);
    TavernBench y = houseFrom(21);
    due("late and crowded", y.ask(0, 0, 0, 1, 2, 22), -11);
    due("refused", x.count(5), 7);
  }

  private static void askNear() {
    of(6, "nearer than NEAR (0 to 200; 20 at first; the square of how far is less than its square)");
    // Each row: NEAR, how far off along x and y, what is due.
    int[][] rows = {{20, 0, 0, -12}, {20, 19, 0, -12}, {20, 0, 19, -12}, {20, 7, 18, -12}, {20, 20, 0, 1},
      {20, 0, 20, 1}, {20, 12, 16, 1}, {0, 0, 0, 1}, {1, 0, 0, -12}, {1, 1, 0, 1}, {1, 0, 1, 1},
      {200, 199, 0, -12}, {200, 0, 199, -12}, {200, 56, 191, -12}, {200, 200, 0, 1}, {200, 0, 200, 1},
      {200, 120, 160, 1}, {200, 499, 499, 1}};
    for (int[] row : rows) {
      TavernBench x = new TavernBench();
      due("first", x.ask(500, 500, 0, 1, 0, 100), 0);
      x.rule(0, 200);
      x.rule(0, row[0]);
      String where = row[1] + ", " + row[2] + " off, NEAR " + row[0];
      due(where, x.ask(500 + row[1], 500 + row[2], 0, 1, 0, 100), row[3]);
      TavernBench y = new TavernBench();
      y.rule(0, row[0]);
      due("first", y.ask(500, 500, 0, 1, 0, 100), 0);
      due("less by " + where, y.ask(500 - row[1], 500 - row[2], 0, 1, 0, 100), row[3]);
    }
    of(6, "20 at first");
    due("19 off", houseFrom(100).ask(19, 0, 0, 1, 0, 100), -12);
    due("20 off", houseFrom(100).ask(20, 0, 0, 1, 0, 100), 1);
    TavernBench z = new TavernBench();
    z.rule(0, 200);
    due("a corner", z.ask(0, 0, 0, 1, 0, 100), 0);
    due("the other", z.ask(999, 999, 0, 1, 0, 100), 1);
    due("the third", z.ask(0, 999, 0, 1, 0, 100), 2);
    due("the fourth", z.ask(999, 0, 0, 1, 0, 100), 3);
  }

  private static void askNearLicence() {
    of(6, "a HOUSE that has a LICENCE on that DAY");
    TavernBench x = houseFrom(100);
    due("its first day", x.ask(0, 0, 0, 1, 0, 100), -12);
    x.event(0, 200, 2, 0);
    due("the last day of the protection", x.ask(0, 0, 0, 1, 0, 227), -12);
    due("lapsed", x.ask(0, 0, 0, 1, 0, 228), 1);
    due("the one granted since", x.ask(0, 0, 0, 1, 0, 228), -12);
    TavernBench y = houseFrom(100);
    due("not yet granted", y.ask(0, 0, 0, 1, 0, 99), 1);
    due("both granted", y.ask(0, 0, 0, 1, 0, 100), -12);
    TavernBench z = houseFrom(100);
    for (int i = 0; i < 3; i++) {
      z.event(0, 200, 0, i);
    }
    z.event(0, 210, 1, 1);
    due("the day ahead of ended", z.ask(0, 0, 0, 1, 0, 199), -12);
    due("given back", z.ask(0, 0, 0, 1, 0, 210), -12);
    due("the last day of ended", z.ask(0, 0, 0, 1, 0, 209), 1);
    TavernBench w = houseFrom(100);
    w.event(0, 200, 6, 0);
    due("the day ahead of surplus", w.ask(0, 0, 0, 1, 0, 199), -12);
    due("surplus", w.ask(0, 0, 0, 1, 0, 200), 1);
  }

  private static void askHeard() {
    of(6, "OBJECTORS that live no farther than HEARD");
    TavernBench x = new TavernBench();
    x.objector(0, 0, 10);
    x.objector(0, 0, 10);
    due("100 off", x.ask(100, 0, 0, 1, 0, 100), -13);
    due("100 off, y", x.ask(0, 100, 0, 1, 0, 100), -13);
    due("60 and 80 off", x.ask(60, 80, 0, 1, 0, 100), -13);
    due("10001 of 10000", x.ask(100, 1, 0, 1, 0, 100), 0);
    due("101 off, y", x.ask(0, 101, 0, 1, 0, 100), 1);
    x.rule(1, 0);
    due("HEARD 0, the very place", x.ask(0, 0, 0, 1, 0, 100), -13);
    due("HEARD 0, one off", x.ask(1, 0, 0, 1, 0, 100), 2);
    x.rule(1, 500);
    due("500 off", x.ask(500, 0, 0, 1, 0, 100), -13);
    due("300 and 400 off", x.ask(300, 400, 0, 1, 0, 100), -13);
    due("501 off", x.ask(501, 0, 0, 1, 0, 100), 3);
    due("the far corner", x.ask(999, 999, 0, 1, 0, 100), 4);
    of(6, "WEIGHTS are together above 10");
    TavernBench y = new TavernBench();
    for (int i = 0; i < 10; i++) {
      y.objector(500, 500, 1);
    }
    due("10", y.ask(500, 500, 0, 1, 0, 100), 0);
    y.objector(500, 601, 1);
    due("10 and one too far", y.ask(500, 500, 0, 1, 0, 99), 1);
    y.objector(500, 600, 1);
    due("11", y.ask(500, 500, 0, 1, 0, 98), -13);
    due("10 and two too far", y.ask(500, 420, 0, 1, 0, 98), 2);
  }

  private static void granted() {
    of(6, "Else it is GRANTED from that DAY on");
    TavernBench x = houseFrom(100);
    due("the day ahead", x.on(0, 99, 0), 0);
    due("that day", x.on(0, 100, 0), 1);
    due("the last day", x.on(0, 3999, 0), 1);
    of(7, "NO: it is ahead of the DAY when it was GRANTED");
    for (int kind = 2; kind < 7; kind++) {
      due("kind " + kind + ", the day ahead", x.event(0, 99, kind, 0), NO);
    }
    due("offence, the day ahead", x.event(0, 99, 0, 0), NO);
    due("offence, that day", x.event(0, 100, 0, 0), 1);
    due("quashed, the day ahead", x.event(0, 99, 1, 0), NO);
    due("quashed, that day", x.event(0, 100, 1, 0), 2);
    for (int kind = 2; kind < 7; kind++) {
      due("kind " + kind + ", that day", x.event(0, 100, kind, 0), kind + 1);
    }
  }

  private static void eventArguments() {
    TavernBench x = row(2, 1);
    of(7, "BAD: there is no such thing");
    for (int house : outside(0, 1)) {
      due("house " + house, x.event(house, 100, 2, 0), BAD);
    }
    for (int kind : outside(0, 6)) {
      due("kind " + kind, x.event(0, 100, kind, 0), BAD);
    }
    of(7, "an OFFENCE (number v from 0 to 99)");
    due("offence told, so that v alone is wrong", x.event(0, 100, 0, 5), 1);
    for (int v : outside(0, 99)) {
      due("offence " + v, x.event(0, 100, 0, v), BAD);
      due("quashed " + v, x.event(0, 100, 1, v), BAD);
    }
    due("offence 0", x.event(0, 100, 0, 0), 2);
    due("offence 99", x.event(0, 101, 0, 99), 3);
    due("both count", x.on(0, 101, 1), 3);
    due("quashed 0", x.event(0, 101, 1, 0), 4);
    due("quashed 99", x.event(0, 101, 1, 99), 5);
    due("one is left", x.on(0, 101, 1), 1);
    of(7, "SHUT from minute v on (0 to 1439)");
    for (int v : outside(0, 1439)) {
      due("condition " + v, x.event(0, 100, 4, v), BAD);
    }
    due("condition 0", x.event(0, 100, 4, 0), 6);
    due("it is", x.on(0, 100, 2), 0);
    due("condition 1439", x.event(0, 100, 4, 1439), 7);
    due("it is", x.on(0, 100, 2), 1439);
    of(7, "v is looked at by 0, 1, 4 alone");
    int[] kinds = {2, 3, 5, 6};
    int[] vs = {LEAST, -1, 1440, MOST};
    for (int i = 0; i < 4; i++) {
      TavernBench y = houseFrom(100);
      for (int k = 0; k < 4; k++) {
        due("kind " + kinds[i] + ", v " + vs[k], y.event(0, 100, kinds[i], vs[k]), k + 1);
      }
    }
  }

  private static void eventsNo() {
    of(7, "NO: an OFFENCE of that number was told already");
    TavernBench x = row(2, 1);
    due("first", x.event(0, 200, 0, 7), 1);
    due("on the same day", x.event(0, 200, 0, 7), NO);
    due("on a day ahead", x.event(0, 100, 0, 7), NO);
    due("on a day behind", x.event(0, 3999, 0, 7), NO);
    due("of another HOUSE", x.event(1, 200, 0, 7), 1);
    due("another number", x.event(0, 200, 0, 8), 2);
    due("a condition of 7 is no offence", x.event(0, 200, 4, 9), 3);
    due("so 9 is free", x.event(0, 200, 0, 9), 4);
    due("quashed", x.event(0, 200, 1, 7), 5);
    due("told already, though quashed", x.event(0, 300, 0, 7), NO);
    of(7, "NO: what is QUASHED was not");
    due("of no number", x.event(0, 200, 1, 10), NO);
    due("of another HOUSE's", x.event(1, 200, 1, 8), NO);
    due("a condition is no offence", x.event(0, 200, 4, 11), 6);
    due("of a condition", x.event(0, 200, 1, 11), NO);
    due("told now", x.event(0, 200, 0, 10), 7);
    due("so it can be", x.event(0, 200, 1, 10), 8);
    of(7, "BAD; NO");
    due("bad kind ahead of the grant", x.event(0, 99, 7, 0), BAD);
    due("bad number ahead of the grant", x.event(0, 99, 0, 100), BAD);
    due("bad minute ahead of the grant", x.event(0, 99, 4, -1), BAD);
  }

  private static void eventsFull() {
    of(7, "EVENTS of a HOUSE, 16 at most");
    TavernBench x = row(2, 1);
    due("an offence", x.event(0, 200, 0, 1), 1);
    for (int i = 2; i < 16; i++) {
      due("event " + i, x.event(0, 3999, 5, 0), i);
    }
    due("not surplus", x.on(0, 300, 0), 1);
    due("event 16", x.event(0, 300, 6, 0), 16);
    due("it holds", x.on(0, 300, 0), 4);
    due("event 17", x.event(0, 250, 6, 0), FULL);
    due("does not", x.on(0, 299, 0), 1);
    due("an offence behind the full one", x.event(0, 200, 0, 2), FULL);
    due("does not count", x.on(0, 200, 1), 1);
    due("a quashing behind the full one", x.event(0, 200, 1, 1), FULL);
    due("quashes nothing", x.on(0, 200, 1), 1);
    due("a condition behind the full one", x.event(0, 200, 4, 9), FULL);
    due("is none", x.on(0, 200, 2), NONE);
    due("the other HOUSE has its own", x.event(1, 200, 6, 0), 1);
    of(7, "BAD; NO; FULL");
    due("full and ahead of the grant", x.event(0, 99, 6, 0), NO);
    due("full and told already", x.event(0, 200, 0, 1), NO);
    due("full and not told", x.event(0, 200, 1, 2), NO);
    due("full and bad", x.event(0, 99, -1, 0), BAD);
    due("full and a bad day", x.event(0, 4000, 6, 0), BAD);
  }

  private static void eventsInAnyOrder() {
    of(7, "each of a DAY (told in any order)");
    int[] days = {300, 200, 250};
    for (int first = 0; first < 3; first++) {
      TavernBench x = houseFrom(100);
      for (int i = 0; i < 3; i++) {
        due("offence", x.event(0, days[(first + i) % 3], 0, i), i + 1);
      }
      due("ended on the last by day", x.on(0, 300, 0), 2);
      due("not ahead of it", x.on(0, 299, 0), 1);
    }
    TavernBench y = houseFrom(100);
    y.event(0, 227, 3, 0);
    y.event(0, 200, 2, 0);
    due("transfer told ahead of its death", y.on(0, 228, 0), 1);
  }

  private static void worthBounds() {
    TavernBench x = row(2, 100);
    of(8, "BAD: there is no such thing");
    for (int house : outside(0, 1)) {
      due("house " + house, x.worth(house, 100, 1), BAD);
    }
    of(8, "a WORTH (1 to 100000)");
    for (int w : outside(1, 100000)) {
      due("worth " + w, x.worth(0, 100, w), BAD);
    }
    due("worth 1", x.worth(0, 200, 1), 2);
    due("worth 100000", x.worth(0, 300, 100000), 3);
    of(8, "from a DAY on");
    due("the day ahead", x.on(0, 199, 3), 100);
    due("that day", x.on(0, 200, 3), 1);
    due("the day ahead of the next", x.on(0, 299, 3), 1);
    due("the next", x.on(0, 300, 3), 100000);
    due("the last day", x.on(0, 3999, 3), 100000);
    due("another HOUSE", x.on(1, 3999, 3), 100);
    of(8, "Of one DAY that told last");
    due("of 200 again", x.worth(0, 200, 2), 4);
    due("told last", x.on(0, 200, 3), 2);
    due("of a later day still", x.on(0, 300, 3), 100000);
    of(8, "a DAY ahead of GRANTED counts as that");
    due("the day ahead of the grant", x.worth(0, 99, 3), 5);
    due("on the grant's day told last", x.on(0, 100, 3), 3);
    due("on the grant's day", x.worth(0, 100, 4), 6);
    due("told last", x.on(0, 100, 3), 4);
    due("of day 0", x.worth(0, 0, 5), 7);
    due("told last, too", x.on(0, 100, 3), 5);
    due("not beyond 200", x.on(0, 200, 3), 2);
  }

  private static void worthFull() {
    of(8, "FULL: 8 (the first is that of the ASK)");
    TavernBench x = row(2, 100);
    for (int i = 2; i < 8; i++) {
      due("worth " + i, x.worth(0, 100 + i, i), i);
    }
    due("worth 8", x.worth(0, 200, 88), 8);
    due("it holds", x.on(0, 200, 3), 88);
    due("worth 9", x.worth(0, 200, 99), FULL);
    due("does not", x.on(0, 200, 3), 88);
    due("worth 10", x.worth(0, 0, 99), FULL);
    due("the other HOUSE has its own", x.worth(1, 200, 99), 2);
    of(8, "BAD; FULL");
    due("full and bad", x.worth(0, 200, 0), BAD);
    due("full and bad", x.worth(0, 4000, 1), BAD);
    due("no such HOUSE", x.worth(2, 200, 1), BAD);
  }

  private static void onArguments() {
    of(9, "BAD");
    TavernBench x = row(2, 1);
    for (int house : outside(0, 1)) {
      for (int what = 0; what < 4; what++) {
        due("house " + house + ", what " + what, x.on(house, 100, what), BAD);
      }
    }
    for (int what : outside(0, 3)) {
      due("what " + what, x.on(0, 100, what), BAD);
      due("what " + what + " ahead of the grant", x.on(0, 99, what), BAD);
    }
    due("what 0", x.on(1, 100, 0), 1);
    due("what 1", x.on(1, 100, 1), 0);
    due("what 2", x.on(1, 100, 2), NONE);
    due("what 3", x.on(1, 100, 3), 1);
  }

  private static void onEnded() {
    of(9, "three OFFENCES of DAYS D - 1825 to D");
    TavernBench x = houseFrom(100);
    x.event(0, 100, 0, 1);
    x.event(0, 100, 0, 2);
    due("two", x.on(0, 100, 0), 1);
    x.event(0, 1926, 0, 3);
    due("1826 days off", x.on(0, 1926, 0), 1);
    due("and ever after", x.on(0, 3999, 0), 1);
    x.event(0, 1925, 0, 4);
    due("1825 days off", x.on(0, 1925, 0), 2);
    of(9, "ENDED from D on");
    due("the day ahead", x.on(0, 1924, 0), 1);
    due("when but two of the three count", x.on(0, 1926, 0), 2);
    due("the last day", x.on(0, 3999, 0), 2);
    of(9, "1 OFFENCES that count (of DAYS day - 1825 to it)");
    due("the day ahead of all", x.on(0, 99, 1), 0);
    due("the first day", x.on(0, 100, 1), 2);
    due("1925", x.on(0, 1925, 1), 3);
    due("1926", x.on(0, 1926, 1), 2);
    due("1925 + 1825", x.on(0, 3750, 1), 2);
    due("1925 + 1826", x.on(0, 3751, 1), 1);
    due("1926 + 1826", x.on(0, 3752, 1), 0);
  }

  private static void onEndedSpread() {
    of(9, "on a DAY D by then three OFFENCES of DAYS D - 1825 to D");
    TavernBench x = houseFrom(100);
    int[] days = {100, 1000, 1926, 2826, 3752};
    for (int i = 0; i < 5; i++) {
      x.event(0, days[i], 0, i);
    }
    due("no three lie close enough", x.on(0, 3999, 0), 1);
    x.event(0, 3751, 0, 50);
    due("1926, 2826, 3751 do", x.on(0, 3751, 0), 2);
    due("not ahead of it", x.on(0, 3750, 0), 1);
    TavernBench y = houseFrom(3990);
    for (int i = 0; i < 3; i++) {
      due("offence " + i, y.event(0, 3999, 0, i), i + 1);
    }
    due("on the last day", y.on(0, 3999, 0), 2);
    due("the day ahead", y.on(0, 3998, 0), 1);
  }

  private static void onQuashed() {
    of(9, "QUASHED: as if it had never been, from the DAY of this on");
    TavernBench x = houseFrom(100);
    for (int i = 0; i < 3; i++) {
      x.event(0, 200 + i, 0, i);
    }
    x.event(0, 300, 1, 0);
    due("the day ahead", x.on(0, 299, 0), 2);
    due("three count", x.on(0, 299, 1), 3);
    due("that day: given back", x.on(0, 300, 0), 1);
    due("two count", x.on(0, 300, 1), 2);
    due("the last day", x.on(0, 3999, 0), 1);
    due("ended as before on 202", x.on(0, 202, 0), 2);
    due("and not on 201", x.on(0, 201, 0), 1);
    TavernBench y = houseFrom(100);
    for (int i = 0; i < 3; i++) {
      y.event(0, 200, 0, i);
    }
    y.event(0, 200, 1, 2);
    due("quashed on the day itself", y.on(0, 200, 0), 1);
    due("two count", y.on(0, 200, 1), 2);
    y.event(0, 300, 0, 3);
    due("a third of 300", y.on(0, 300, 0), 2);
    due("not of 200", y.on(0, 299, 0), 1);
    TavernBench z = houseFrom(100);
    for (int i = 0; i < 4; i++) {
      z.event(0, 200 + 10 * i, 0, i);
    }
    z.event(0, 3999, 1, 1);
    due("ended by the first three", z.on(0, 220, 0), 2);
    due("the day ahead of the quashing", z.on(0, 3998, 0), 2);
    due("three are left", z.on(0, 3999, 0), 2);
    z.event(0, 3999, 1, 2);
    due("two are left", z.on(0, 3999, 0), 1);
    int[][] orders = {{300, 400}, {400, 300}, {300, 300}};
    for (int[] order : orders) {
      TavernBench w = houseFrom(100);
      for (int i = 0; i < 3; i++) {
        w.event(0, 200, 0, i);
      }
      w.event(0, order[0], 1, 1);
      w.event(0, order[1], 1, 1);
      due("quashed twice, ahead of the first", w.on(0, 299, 0), 2);
      due("quashed twice, from the first on", w.on(0, 300, 0), 1);
      due("it counts but once", w.on(0, 400, 1), 2);
    }
  }

  private static void onLapsed() {
    of(9, "a DEATH of DAY D without a TRANSFER of DAYS D to D + 27 (LAPSED from D + 28 on)");
    int[] transfers = {199, 200, 201, 226, 227, 228, 3999};
    int[] states = {3, 1, 1, 1, 1, 3, 3};
    for (int i = 0; i < transfers.length; i++) {
      TavernBench x = houseFrom(100);
      x.event(0, 200, 2, 0);
      due("D + 27", x.on(0, 227, 0), 1);
      due("D + 28", x.on(0, 228, 0), 3);
      due("the last day", x.on(0, 3999, 0), 3);
      x.event(0, transfers[i], 3, 0);
      due("transfer of " + transfers[i] + ", D + 27", x.on(0, 227, 0), 1);
      due("transfer of " + transfers[i] + ", D + 28", x.on(0, 228, 0), states[i]);
      due("transfer of " + transfers[i] + ", the last day", x.on(0, 3999, 0), states[i]);
    }
    TavernBench y = houseFrom(100);
    y.event(0, 100, 2, 0);
    y.event(0, 101, 2, 0);
    y.event(0, 100, 3, 0);
    due("the second death has no transfer: protected", y.on(0, 128, 0), 1);
    due("lapsed", y.on(0, 129, 0), 3);
    y.event(0, 128, 3, 0);
    due("one of its last day", y.on(0, 129, 0), 1);
    int[][] orders = {{200, 210}, {210, 200}};
    for (int[] order : orders) {
      TavernBench w = houseFrom(100);
      w.event(0, order[0], 2, 0);
      w.event(0, order[1], 2, 0);
      w.event(0, 230, 6, 0);
      due("of two deaths the first, ahead", w.on(0, 227, 0), 1);
      due("of two deaths the first", w.on(0, 228, 0), 3);
      due("lapsed ahead of surplus", w.on(0, 230, 0), 3);
      due("still, when the second is over", w.on(0, 3999, 0), 3);
    }
    TavernBench z = houseFrom(100);
    z.event(0, 3972, 2, 0);
    due("D + 27 is the last day", z.on(0, 3999, 0), 1);
    z.event(0, 3971, 2, 0);
    due("D + 28 is", z.on(0, 3999, 0), 3);
  }

  private static void onSurplus() {
    of(9, "SURPLUS, by EVENTS of DAYS not behind");
    TavernBench x = houseFrom(100);
    x.event(0, 3999, 6, 0);
    due("the day ahead", x.on(0, 3998, 0), 1);
    due("the last day", x.on(0, 3999, 0), 4);
    x.event(0, 100, 6, 0);
    due("the day of the grant", x.on(0, 100, 0), 4);
    due("ahead of the grant", x.on(0, 99, 0), 0);
    of(9, "of several the least DAY from which, then 2, 3, 4");
    int[][] cases = {{128, 128, 128, 2}, {129, 128, 128, 3}, {129, 129, 128, 4}, {129, 128, 129, 3}, {128, 129, 128, 2},
      {128, 128, 129, 2}, {128, 129, 129, 2}, {130, 129, 128, 4}, {129, 130, 128, 4}, {128, 130, 129, 2},
      {130, 128, 129, 3}, {129, 128, 130, 3}};
    for (int[] c : cases) {
      TavernBench y = houseFrom(100);
      y.event(0, c[2], 6, 0);
      y.event(0, c[1] - 28, 2, 0);
      for (int i = 0; i < 3; i++) {
        y.event(0, c[0], 0, i);
      }
      String told = "ended, lapsed, surplus from " + c[0] + ", " + c[1] + ", " + c[2];
      due(told, y.on(0, 130, 0), c[3]);
      due(told + ", ahead of all", y.on(0, 127, 0), 1);
    }
  }

  private static void onLeastOfLike() {
    of(9, "of several the least DAY from which: of like ones, too");
    int[][] orders = {{200, 201, 202, 300, 301}, {301, 300, 202, 201, 200}, {300, 200, 301, 202, 201}};
    for (int[] order : orders) {
      TavernBench x = houseFrom(100);
      for (int i = 0; i < 5; i++) {
        x.event(0, order[i], 0, i);
      }
      x.event(0, 203, 6, 0);
      due("ended on 202, surplus on 203", x.on(0, 203, 0), 2);
      due("still, behind two offences more", x.on(0, 3999, 0), 2);
      x.event(0, 201, 6, 0);
      due("surplus on 201, too", x.on(0, 3999, 0), 4);
      x.event(0, 400, 6, 0);
      due("and on 400", x.on(0, 3999, 0), 4);
    }
  }

  private static void onCondition() {
    of(9, "2 the minute of its CONDITION (the latest by DAY, then told last; 5 takes it away; NONE)");
    TavernBench x = houseFrom(100);
    due("none told", x.on(0, 100, 2), NONE);
    x.event(0, 200, 4, 0);
    due("the day ahead", x.on(0, 199, 2), NONE);
    due("minute 0 is one", x.on(0, 200, 2), 0);
    due("the last day", x.on(0, 3999, 2), 0);
    x.event(0, 200, 4, 1439);
    due("told last", x.on(0, 200, 2), 1439);
    x.event(0, 199, 4, 5);
    due("of a day ahead, told last", x.on(0, 200, 2), 1439);
    due("on that day", x.on(0, 199, 2), 5);
    x.event(0, 250, 5, 0);
    due("the day ahead of 5", x.on(0, 249, 2), 1439);
    due("5", x.on(0, 250, 2), NONE);
    x.event(0, 250, 4, 6);
    due("told behind 5, of its day", x.on(0, 250, 2), 6);
    x.event(0, 250, 5, 0);
    due("5 told last", x.on(0, 250, 2), NONE);
    x.event(0, 100, 4, 7);
    due("the day of the grant", x.on(0, 100, 2), 7);
    due("ahead of the grant", x.on(0, 99, 2), NONE);
    of(9, "it follows the HOUSE");
    x.event(0, 260, 4, 8);
    x.event(0, 261, 2, 0);
    x.event(0, 262, 3, 0);
    due("over a death and a transfer", x.on(0, 262, 2), 8);
    x.event(0, 300, 6, 0);
    due("and surplus", x.on(0, 300, 2), 8);
  }

  private static void openArguments() {
    TavernBench x = row(2, 1);
    hours(x, 0, 1800);
    of(10, "MINUTES of a DAY are 0 to 1439");
    for (int minute : outside(0, 1439)) {
      due("minute " + minute, x.open(0, 100, minute), BAD);
    }
    due("minute 0", x.open(0, 100, 0), 1);
    due("minute 1439", x.open(0, 100, 1439), 1);
    of(10, "BAD");
    for (int house : outside(0, 1)) {
      due("house " + house, x.open(house, 100, 0), BAD);
    }
    due("house 1", x.open(1, 100, 0), 1);
    of(11, "BAD");
    for (int house : outside(0, 1)) {
      due("house " + house, x.minutes(house, 100), BAD);
    }
    due("house 1", x.minutes(1, 100), 1440);
    due("no house", new TavernBench().minutes(0, 100), BAD);
  }

  // The door of a house of kind 0 from day 100 on, weekday 2; each row: f, t, then minutes on 100 and on 101, where
  // the law of weekday 3 is SHUT.
  private static void openHours() {
    int[][] laws = {{0, 1, 1, 0}, {0, 1440, 1440, 0}, {0, 1441, 1440, 1}, {0, 1800, 1440, 360}, {1439, 1440, 1, 0},
      {1439, 1441, 1, 1}, {1439, 1800, 1, 360}, {1, 1439, 1438, 0}, {600, 601, 1, 0}, {0, 0, 0, 0}};
    for (int[] law : laws) {
      int f = law[0];
      int t = law[1];
      TavernBench x = houseFrom(100);
      x.law(0, 0, 2, f, t);
      of(11, "OPEN from minute f, up to minute t, beyond 1440 it goes on into the DAY that follows");
      due("minutes on 100, " + f + " to " + t, x.minutes(0, 100), law[2]);
      due("minutes on 101, " + f + " to " + t, x.minutes(0, 101), law[3]);
      due("minutes on 102, " + f + " to " + t, x.minutes(0, 102), 0);
      due("minutes on 107, " + f + " to " + t, x.minutes(0, 107), law[2]);
      of(10, "OPEN from minute f, up to minute t, beyond 1440 it goes on into the DAY that follows");
      int[] near = {0, 1, f - 1, f, f + 1, t - 1, t, 1438, 1439};
      for (int minute : near) {
        if (minute >= 0 && minute < 1440) {
          due("on 100, " + minute, x.open(0, 100, minute), minute >= f && minute < t ? 1 : 0);
        }
      }
      int[] after = {0, 1, t - 1441, t - 1440, t - 1439, 359, 360, 1439};
      for (int minute : after) {
        if (minute >= 0) {
          due("on 101, " + minute, x.open(0, 101, minute), minute + 1440 < t ? 1 : 0);
        }
      }
      due("on 102, 0", x.open(0, 102, 0), 0);
    }
  }

  private static void openBothDays() {
    of(11, "How many minutes: each counts once");
    int[][] rows = {{0, 360, 360}, {100, 300, 360}, {359, 400, 400}, {360, 400, 400}, {361, 400, 399}, {0, 1800, 1440},
      {300, 1440, 1440}, {361, 1440, 1439}, {1439, 1800, 361}, {0, 0, 360}};
    for (int[] row : rows) {
      TavernBench x = houseFrom(100);
      x.law(0, 0, 2, 1439, 1800);
      x.law(0, 0, 3, row[0], row[1]);
      due("360 over, then " + row[0] + " to " + row[1], x.minutes(0, 101), row[2]);
    }
    of(10, "by the law of the DAY ahead, its KIND's, for its WEEKDAY");
    TavernBench y = houseFrom(100);
    y.law(0, 0, 2, 0, 1500);
    y.law(101, 0, 2, 0, 1600);
    y.law(0, 1, 2, 0, 1700);
    due("59", y.open(0, 101, 59), 1);
    due("a law of 101 was not in force on 100", y.open(0, 101, 60), 0);
    due("a week later it is", y.open(0, 108, 159), 1);
    due("its last", y.open(0, 108, 160), 0);
    TavernBench z = houseFrom(100);
    z.law(0, 0, 2, 0, 1500);
    z.law(0, 0, 7, 10, 1700);
    z.feast(100);
    due("a feast: f", z.open(0, 100, 9), 0);
    due("what goes on from a feast", z.open(0, 101, 259), 1);
    due("its last", z.open(0, 101, 260), 0);
    z.feast(101);
    due("into a feast", z.minutes(0, 101), 260 + 1440 - 260);
  }

  private static void openKinds() {
    of(10, "the law of its KIND has it OPEN in that minute");
    TavernBench x = new TavernBench();
    for (int kind = 0; kind < 3; kind++) {
      due("ask of kind " + kind, x.ask(kind * 50, 0, kind, 1, 0, 100), kind);
      x.law(0, kind, 2, 100 * kind, 1500 + kind);
    }
    for (int kind = 0; kind < 3; kind++) {
      int f = 100 * kind;
      due("kind " + kind + ", f", x.open(kind, 100, f), 1);
      due("kind " + kind + ", ahead of f", f == 0 ? 0 : x.open(kind, 100, f - 1), 0);
      due("kind " + kind + ", goes on", x.open(kind, 101, 59 + kind), 1);
      due("kind " + kind + ", t", x.open(kind, 101, 60 + kind), 0);
      due("kind " + kind + ", minutes", x.minutes(kind, 100), 1440 - f);
      due("kind " + kind + ", minutes the day behind it", x.minutes(kind, 101), 60 + kind);
    }
  }

  private static void openWithoutLicence() {
    of(10, "it has a LICENCE on that DAY");
    TavernBench x = houseFrom(100);
    hours(x, 0, 1800);
    x.event(0, 110, 6, 0);
    for (int day : new int[] {0, 99, 110, 111, 3999}) {
      for (int minute : new int[] {0, 1, 359, 360, 1439}) {
        due("day " + day + ", minute " + minute, x.open(0, day, minute), 0);
      }
      due("minutes on " + day, x.minutes(0, day), 0);
    }
    due("the first day", x.minutes(0, 100), 1440);
    due("the last day", x.minutes(0, 109), 1440);
    due("the first minute", x.open(0, 100, 0), 1);
    due("the last minute", x.open(0, 109, 1439), 1);
  }

  private static void openLicence() {
    of(10, "it has a LICENCE on that DAY, or it had one on the DAY ahead, too");
    TavernBench x = houseFrom(100);
    hours(x, 600, 1800);
    due("the day ahead of the grant", x.open(0, 99, 600), 0);
    due("granted: nothing goes on yet", x.open(0, 100, 0), 0);
    due("granted", x.open(0, 100, 600), 1);
    due("goes on", x.open(0, 101, 359), 1);
    x.event(0, 200, 6, 0);
    due("the last day", x.open(0, 199, 1439), 1);
    due("goes on no more", x.open(0, 200, 0), 0);
    due("nor opens", x.open(0, 200, 600), 0);
    of(11, "it has a LICENCE on that DAY, or it had one on the DAY ahead, too");
    due("ahead of the grant", x.minutes(0, 99), 0);
    due("granted", x.minutes(0, 100), 840);
    due("the day behind it", x.minutes(0, 101), 1200);
    due("the last day", x.minutes(0, 199), 1200);
    due("surplus", x.minutes(0, 200), 0);
    TavernBench y = houseFrom(100);
    hours(y, 600, 1800);
    for (int i = 0; i < 3; i++) {
      y.event(0, 200, 0, i);
    }
    y.event(0, 210, 1, 0);
    due("ended", y.minutes(0, 209), 0);
    due("given back: nothing goes on yet", y.minutes(0, 210), 840);
    due("the day behind it", y.minutes(0, 211), 1200);
  }

  private static void openConditions() {
    of(10, "a CONDITION: SHUT from minute v on, and what goes on from the DAY ahead ends at minute 0");
    int[] vs = {0, 1, 599, 600, 601, 1438, 1439};
    for (int v : vs) {
      TavernBench x = houseFrom(100);
      hours(x, 600, 1800);
      x.event(0, 200, 4, v);
      due("the day ahead, 1439", x.open(0, 199, 1439), 1);
      due("the day ahead, 0", x.open(0, 199, 0), 1);
      int[] minutes = {0, 359, 599, 600, v - 1, v, v + 1, 1439};
      for (int minute : minutes) {
        if (minute >= 0 && minute < 1440) {
          int want = minute >= 600 && minute < v ? 1 : 0;
          due("v " + v + ", " + minute, x.open(0, 200, minute), want);
          due("v " + v + ", the day behind it, " + minute, x.open(0, 201, minute), want);
        }
      }
      due("minutes", x.minutes(0, 200), Math.max(0, v - 600));
      due("minutes on the last day", x.minutes(0, 3999), Math.max(0, v - 600));
      x.event(0, 210, 5, 0);
      due("the day ahead of 5", x.minutes(0, 209), Math.max(0, v - 600));
      of(10, "no CONDITION is in force on this DAY");
      due("5", x.minutes(0, 210), 1200);
      due("5: it goes on", x.open(0, 210, 359), 1);
      due("5: to its last", x.open(0, 210, 360), 0);
      of(10, "a CONDITION: SHUT from minute v on, and what goes on from the DAY ahead ends at minute 0");
    }
    TavernBench y = houseFrom(100);
    hours(y, 0, 1000);
    y.event(0, 200, 4, 1000);
    due("v is t", y.minutes(0, 200), 1000);
    y.event(0, 200, 4, 999);
    due("v one less", y.minutes(0, 200), 999);
    y.event(0, 201, 3, 0);
    due("it follows the HOUSE", y.open(0, 201, 999), 0);
  }

  private static void owesArguments() {
    of(13, "BAD; NO: s is not SURPLUS");
    TavernBench none = new TavernBench();
    due("no house", none.owes(0, 0), BAD);
    TavernBench x = row(3, 10);
    x.event(2, 200, 6, 0);
    for (int n : outside(0, 2)) {
      due("house " + n, x.owes(n, 2), BAD);
      due("house " + n + ", s not SURPLUS", x.owes(n, 0), BAD);
      due("s " + n, x.owes(0, n), BAD);
      due("both " + n, x.owes(n, n), BAD);
    }
    due("not SURPLUS", x.owes(0, 1), NO);
    due("not SURPLUS, it is s", x.owes(1, 1), NO);
    due("not SURPLUS, asked of one that is", x.owes(2, 1), NO);
    of(13, "0: it has no LICENCE then, it is s");
    due("it is s", x.owes(2, 2), 0);
    due("a part", x.owes(0, 2), 15);
    x.event(1, 201, 6, 0);
    due("SURPLUS the day behind", x.owes(1, 2), 15);
    x.event(1, 200, 6, 0);
    due("SURPLUS that day", x.owes(1, 2), 0);
    due("the other pays whole", x.owes(0, 2), 30);
    TavernBench y = row(2, 10);
    due("granted the day behind", y.ask(500, 0, 0, 10, 0, 201), 2);
    due("granted that day", y.ask(600, 0, 0, 10, 0, 200), 3);
    y.event(0, 200, 6, 0);
    due("granted the day behind: none", y.owes(2, 0), 0);
    due("granted that day: its part", y.owes(3, 0), 15);
    TavernBench z = row(1, 10);
    z.event(0, 100, 6, 0);
    due("alone", z.owes(0, 0), 0);
  }

  private static void owesOfOneWithoutLicence() {
    of(13, "SURPLUS HOUSE s, of which that EVENT is the first such");
    TavernBench x = row(2, 10);
    x.event(0, 200, 2, 0);
    due("lapsed, but not SURPLUS", x.owes(1, 0), NO);
    x.worth(0, 250, 20);
    x.event(0, 300, 6, 0);
    due("it was lapsed by then", x.on(0, 300, 0), 3);
    due("lapsed, then SURPLUS", x.owes(1, 0), 60);
    x.event(0, 240, 6, 0);
    due("the first of two, both when it was lapsed", x.owes(1, 0), 30);
    TavernBench y = row(2, 10);
    for (int i = 0; i < 3; i++) {
      y.event(0, 200, 0, i);
    }
    due("ended, but not SURPLUS", y.owes(1, 0), NO);
    y.event(0, 300, 6, 0);
    due("it was ended by then", y.on(0, 300, 0), 2);
    due("ended, then SURPLUS", y.owes(1, 0), 30);
    y.event(0, 400, 1, 0);
    due("the end is quashed since", y.on(0, 400, 0), 4);
    due("it makes no difference", y.owes(1, 0), 30);
    of(13, "0: it has no LICENCE then");
    TavernBench z = row(3, 10);
    for (int i = 0; i < 3; i++) {
      z.event(1, 200, 0, i);
    }
    z.event(0, 300, 6, 0);
    due("ended then", z.owes(1, 0), 0);
    due("so the other pays whole", z.owes(2, 0), 30);
    z.event(1, 301, 1, 0);
    due("quashed the day behind", z.owes(1, 0), 0);
    z.event(1, 300, 1, 1);
    due("quashed on that day: it has a LICENCE then", z.owes(1, 0), 15);
  }

  private static void owesParts() {
    of(13, "each its part, cut; what is left one each to those with the greatest rest");
    TavernBench x = row(4, 1);
    x.event(3, 200, 6, 0);
    int[] thirds = {1, 1, 1, 0};
    for (int i = 0; i < 4; i++) {
      due("3 among three, house " + i, x.owes(i, 3), thirds[i]);
    }
    x.worth(3, 200, 2);
    x.worth(0, 200, 2);
    // 6 by 2, 1, 1: 3, 1.5, 1.5
    int[] quarters = {3, 2, 1, 0};
    for (int i = 0; i < 4; i++) {
      due("6 by 2, 1, 1, house " + i, x.owes(i, 3), quarters[i]);
    }
    x.worth(2, 200, 2);
    // 6 by 2, 1, 2: 2.4, 1.2, 2.4: one is left
    int[] fifths = {3, 1, 2, 0};
    for (int i = 0; i < 4; i++) {
      due("6 by 2, 1, 2, house " + i, x.owes(i, 3), fifths[i]);
    }
    x.worth(1, 200, 5);
    // 6 by 2, 5, 2: 1.33, 3.33, 1.33: one is left
    int[] ninths = {2, 3, 1, 0};
    for (int i = 0; i < 4; i++) {
      due("6 by 2, 5, 2, house " + i, x.owes(i, 3), ninths[i]);
    }
    x.worth(0, 200, 4);
    // 6 by 4, 5, 2: 2.18, 2.73, 1.09: one is left
    int[] elevenths = {2, 3, 1, 0};
    for (int i = 0; i < 4; i++) {
      due("6 by 4, 5, 2, house " + i, x.owes(i, 3), elevenths[i]);
    }
  }

  private static void owesSmall() {
    of(13, "of like ones the lower number");
    TavernBench x = row(30, 1);
    x.event(10, 200, 6, 0);
    for (int i = 0; i < 30; i++) {
      due("3 among 29, house " + i, x.owes(i, 10), i < 3 ? 1 : 0);
    }
    x.worth(10, 200, 9);
    for (int i = 0; i < 30; i++) {
      due("27 among 29, house " + i, x.owes(i, 10), i < 28 && i != 10 ? 1 : 0);
    }
    x.worth(10, 200, 10);
    for (int i = 0; i < 30; i++) {
      due("30 among 29, house " + i, x.owes(i, 10), i == 10 ? 0 : i == 0 ? 2 : 1);
    }
    TavernBench y = row(30, 1);
    y.event(0, 200, 6, 0);
    due("lowest number 1", y.owes(1, 0), 1);
    due("3", y.owes(3, 0), 1);
    due("4", y.owes(4, 0), 0);
  }

  private static void owesGreat() {
    of(13, "its WORTH of that DAY times 3");
    TavernBench x = row(30, 100000);
    x.event(29, 3999, 6, 0);
    int sum = 0;
    for (int i = 0; i < 30; i++) {
      // 300000 = 29 * 10344 + 24
      due("house " + i, x.owes(i, 29), i < 24 ? 10345 : i < 29 ? 10344 : 0);
      sum += x.owes(i, 29);
    }
    due("paid whole", sum, 300000);
    TavernBench y = row(2, 100000);
    y.event(0, 200, 6, 0);
    due("one pays the greatest whole", y.owes(1, 0), 300000);
    y.worth(0, 200, 1);
    due("the least", y.owes(1, 0), 3);
    y.worth(1, 200, 1);
    due("the least, paid by the least", y.owes(1, 0), 3);
    y.worth(0, 201, 7);
    due("a WORTH of the day behind", y.owes(1, 0), 3);
    y.worth(0, 199, 8);
    due("a WORTH of the day ahead, told last", y.owes(1, 0), 3);
    of(13, "of which that EVENT is the first such");
    y.event(0, 201, 6, 0);
    due("a second of the day behind", y.owes(1, 0), 3);
    y.event(0, 199, 6, 0);
    due("a third of the day ahead", y.owes(1, 0), 24);
    y.event(0, 100, 6, 0);
    due("on the day of the grant", y.owes(1, 0), 300000);
  }

  private static long next(long seed) {
    return seed * 16807 % 2147483647L;
  }

  private static void visitDraws() {
    of(14, "SEED becomes (SEED times 16807) modulo 2147483647; the one at (SEED modulo how many there are)");
    int[] seeds = {1, 2, 16807, 127773, 1073741824, 2147483645, 2147483646};
    for (int first : seeds) {
      TavernBench x = row(30, 1);
      boolean[] visited = new boolean[30];
      long seed = first;
      due("seed(" + first + ")", x.seed(first), 0);
      for (int left = 30; left > 0; left--) {
        seed = next(seed);
        int at = (int) (seed % left);
        int house = 0;
        while (visited[house] || at > 0) {
          at -= visited[house] ? 0 : 1;
          house++;
        }
        visited[house] = true;
        due("visit of SEED " + first + ", " + left + " left", x.visit(100), house);
      }
      due("all were", x.count(4), 30);
      seed = next(seed);
      due("a new ROUND, drawn of all", x.visit(100), (int) (seed % 30));
      due("its first", x.count(4), 1);
    }
  }

  private static void visitOne() {
    of(14, "SEED is drawn of one, too");
    TavernBench x = houseFrom(100);
    due("no house yet", x.visit(99), NO);
    for (int i = 0; i < 4; i++) {
      due("the one", x.visit(100), 0);
      due("a ROUND of one", x.count(4), 1);
    }
    for (int i = 1; i < 8; i++) {
      due("ask of house " + i, x.ask(33 * i, 0, 0, 1, 0, 100), i);
    }
    long fifth = next(next(next(next(next(1)))));
    due("the fifth draw", x.visit(100), 1 + (int) (fifth % 7));
    of(14, "NO: none has a LICENCE");
    TavernBench y = houseFrom(100);
    due("the day ahead of the grant", y.visit(99), NO);
    y.event(0, 101, 6, 0);
    due("surplus", y.visit(101), NO);
    due("the last day", y.visit(3999), NO);
    due("none was", y.count(4), 0);
    due("the day ahead of surplus", y.visit(100), 0);
    of(14, "BAD; NO: nothing is drawn then");
    TavernBench z = row(30, 1);
    due("bad", z.visit(-1), BAD);
    due("bad", z.visit(4000), BAD);
    due("none has a LICENCE", z.visit(99), NO);
    due("the first draw", z.visit(100), 16807 % 30);
  }

  private static void visitLicensed() {
    of(14, "of those that have a LICENCE and were not visited in this ROUND, by numbers");
    for (int seed = 1; seed < 9; seed++) {
      TavernBench x = new TavernBench();
      int[] from = {200, 100, 200, 100, 100, 200};
      for (int i = 0; i < 6; i++) {
        due("ask of house " + i, x.ask(33 * i, 0, 0, 1, 0, from[i]), i);
      }
      x.seed(seed);
      int[] licensed = {1, 3, 4};
      int at = (int) (next(seed) % 3);
      due("of 1, 3, 4", x.visit(100), licensed[at]);
      int[] left = {licensed[at == 0 ? 1 : 0], licensed[at == 2 ? 1 : 2]};
      at = (int) (next(next(seed)) % 2);
      due("of the two others", x.visit(199), left[at]);
      int third = left[1 - at];
      due("the third", x.visit(100), third);
      x.event(0, 300, 6, 0);
      at = (int) (next(next(next(next(seed)))) % 2);
      due("of 2 and 5", x.visit(300), at == 0 ? 2 : 5);
      due("all in one ROUND", x.count(4), 4);
    }
  }

  private static void visitRounds() {
    of(14, "when all were, a new ROUND begins");
    TavernBench x = row(2, 1);
    due("ask of a later house", x.ask(500, 0, 0, 1, 0, 200), 2);
    x.visit(100);
    x.visit(100);
    due("both of day 100", x.count(4), 2);
    due("of day 200 one is left", x.visit(200), 2);
    due("in the same ROUND", x.count(4), 3);
    due("refused: no new ROUND", x.visit(99), NO);
    due("still", x.count(4), 3);
    int first = x.visit(100);
    due("a new one", x.count(4), 1);
    due("house 2 of day 200 is not visited in it, either", x.visit(200) + x.visit(200) + first, 0 + 1 + 2);
    due("now all were", x.count(4), 3);
    TavernBench y = row(3, 1);
    int third = 3 - y.visit(100) - y.visit(100);
    y.event(third, 101, 6, 0);
    due("all that have a LICENCE on 101 were", y.count(4), 2);
    int again = y.visit(101);
    due("so a new ROUND", y.count(4), 1);
    due("of those that have a LICENCE", again == third ? 1 : 0, 0);
    due("the others are left in it", y.visit(100) + y.visit(100) + again, 0 + 1 + 2);
    due("the ROUND is whole", y.count(4), 3);
    TavernBench z = row(3, 1);
    int gone = z.visit(100);
    z.event(gone, 101, 6, 0);
    due("the two others", z.visit(101) + z.visit(101) + gone, 0 + 1 + 2);
    int one = z.visit(101);
    due("a new ROUND on 101", z.count(4), 1);
    due("the one that is gone by then is not visited in it", z.visit(100) + z.visit(100) + one, 0 + 1 + 2);
    due("a whole ROUND", z.count(4), 3);
  }

  private static void seedBounds() {
    of(15, "The SEED (1 to 2147483646): 0");
    TavernBench x = row(7, 1);
    due("0", x.seed(0), BAD);
    due("-1", x.seed(-1), BAD);
    due("least", x.seed(LEAST), BAD);
    due("2147483647", x.seed(MOST), BAD);
    due("SEED is 1 still", x.visit(100), 16807 % 7);
    due("1", x.seed(1), 0);
    due("drawn of it", x.visit(100), 16807 % 7);
    due("2147483646", x.seed(2147483646), 0);
    due("drawn of it", x.visit(100), (int) (next(2147483646L) % 7));
    due("2", x.seed(2), 0);
    due("drawn of it", x.visit(100), 33614 % 7);
    of(15, "a new ROUND begins");
    due("one visit", x.count(4), 1);
    due("2 again", x.seed(2), 0);
    due("none", x.count(4), 0);
    due("drawn of all again", x.visit(100), 33614 % 7);
    due("bad", x.seed(0), BAD);
    due("no new ROUND", x.count(4), 1);
    due("seed at the start of a ROUND", new TavernBench().seed(5), 0);
  }

  private static void countBounds() {
    of(16, "How many: 0 HOUSES .. 5 ASKS that were refused. BAD");
    TavernBench x = new TavernBench();
    for (int what : outside(0, 5)) {
      due("count(" + what + ")", x.count(what), BAD);
    }
    x.ask(0, 0, 0, 1, 80, 100);
    due("late is refused", x.count(5), 1);
    x.ask(0, 0, 0, 1, 0, 100);
    due("granted is not", x.count(5), 1);
    x.ask(0, 0, 0, 1, 0, 100);
    due("crowded is", x.count(5), 2);
    x.objector(900, 900, 10);
    x.objector(900, 900, 10);
    x.ask(900, 900, 0, 1, 0, 100);
    due("objected is", x.count(5), 3);
    x.ask(900, 900, 0, 0, 0, 100);
    due("bad is not", x.count(5), 3);
    due("houses", x.count(0), 1);
    due("laws", x.count(1), 0);
    due("feasts", x.count(2), 0);
    due("objectors", x.count(3), 2);
    due("visits", x.count(4), 0);
  }

  private static void newObjects() {
    of(1, "Nothing; SEED 1");
    TavernBench used = row(3, 5);
    used.feast(9);
    used.law(0, 0, 0, 0, 1);
    used.objector(0, 0, 1);
    used.rule(0, 7);
    used.rule(1, 8);
    used.visit(100);
    used.seed(99);
    TavernBench x = new TavernBench();
    for (int what = 0; what < 6; what++) {
      due("count(" + what + ")", x.count(what), 0);
    }
    for (int kind = 0; kind < 3; kind++) {
      due("lawOn, kind " + kind, x.lawOn(kind, 0, 1), 0);
    }
    due("NEAR", x.rule(0, 20), 20);
    due("HEARD", x.rule(1, 100), 100);
    due("day 9 is no feast", x.feast(9), 1);
    due("house 0", x.on(0, 100, 0), BAD);
    for (int i = 0; i < 30; i++) {
      due("ask of house " + i, x.ask(33 * i, 0, 0, 1, 0, 100), i);
    }
    due("SEED 1", x.visit(100), 16807 % 30);
  }

  private static void lastCall() {
    of(1, "at most 512 calls");
    TavernBench x = new TavernBench();
    for (int i = 1; i < 512; i++) {
      due("call " + i, x.ask(0, 0, 0, 1, 0, 20), -11);
    }
    due("call 512", x.count(5), 511);
    TavernBench y = houseFrom(100);
    for (int i = 2; i < 512; i++) {
      due("call " + i, y.visit(100), 0);
    }
    due("call 512", y.count(4), 1);
  }

  private static void daysAndLaws() {
    days();
    firstDay();
    lastDay();
    weekdays();
    feastOrder();
    lawArguments();
    lawHours();
    lawsFull();
    lawInForce();
    lawOnArguments();
  }

  private static void asks() {
    ruleBounds();
    objectorBounds();
    objectorTwentieth();
    askBounds();
    askFull();
    askLate();
    askNear();
    askNearLicence();
    askHeard();
    granted();
  }

  private static void houses() {
    eventArguments();
    eventsNo();
    eventsFull();
    eventsInAnyOrder();
    worthBounds();
    worthFull();
    onArguments();
    onEnded();
    onEndedSpread();
    onQuashed();
    onLapsed();
    onSurplus();
    onLeastOfLike();
    onCondition();
  }

  private static void doors() {
    openArguments();
    openHours();
    openBothDays();
    openKinds();
    openWithoutLicence();
    openLicence();
    openConditions();
  }

  private static void fundAndVisits() {
    owesArguments();
    owesOfOneWithoutLicence();
    owesParts();
    owesSmall();
    owesGreat();
    visitDraws();
    visitOne();
    visitLicensed();
    visitRounds();
    seedBounds();
    countBounds();
    newObjects();
    lastCall();
  }

  public static void main(String[] args) {
    daysAndLaws();
    asks();
    houses();
    doors();
    fundAndVisits();
    System.out.println("BoundaryTests: " + checks + " answers looked at, " + wrong + " not as due");
    if (wrong != 0) {
      System.exit(1);
    }
  }
}
