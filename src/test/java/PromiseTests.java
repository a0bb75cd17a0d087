// Each promise of the document by worked examples: ordinary calls, the edges it names, wrong inputs.
public final class PromiseTests {
  private static final int BAD = -1, NO = -2, FULL = -3, NONE = -4;
  private static final int[] OUTSIDE = {-1, Integer.MIN_VALUE, Integer.MAX_VALUE};
  private static int checks = 0;
  private static int wrong = 0;
  private static int promise = 0;

  private static void due(String call, int got, int want) {
    checks++;
    if (got != want) {
      wrong++;
      System.out.println("promise " + promise + ": " + call + " answered " + got + ", due is " + want);
    }
  }

  public static void main(String[] args) {
    newObject();
    feasts();
    laws();
    latestLaw();
    rules();
    objectors();
    asks();
    judgedLate();
    judgedCrowded();
    judgedObjected();
    events();
    eventsRefused();
    worths();
    statesOffences();
    statesQuashings();
    statesDeaths();
    statesOrder();
    onOthers();
    opens();
    opensOverMidnight();
    opensUnderConditions();
    minutesOfDays();
    lawsOnDays();
    owesParts();
    owesDays();
    visits();
    visitRounds();
    seeds();
    counts();
    System.out.println("PromiseTests: " + checks + " answers looked at, " + wrong + " not as due");
    if (wrong != 0) {
      System.exit(1);
    }
  }

  // A house far from others, granted on the day, of kind 0.
  private static int grant(TavernBench x, int place, int day, int worth) {
    return x.ask(place, 0, 0, worth, 0, day);
  }

  private static TavernBench oneHouse(int day) {
    TavernBench x = new TavernBench();
    due("grant", grant(x, 0, day, 100), 0);
    return x;
  }

  private static void newObject() {
    promise = 1;
    due("BAD", TavernBench.BAD, -1);
    due("NO", TavernBench.NO, -2);
    due("FULL", TavernBench.FULL, -3);
    due("NONE", TavernBench.NONE, -4);
    TavernBench x = new TavernBench();
    for (int what = 0; what <= 5; what++) {
      due("count(" + what + ")", x.count(what), 0);
    }
    due("houses: none", x.on(0, 0, 0), BAD);
    due("near at first", x.rule(0, 20), 20);
    due("heard at first", x.rule(1, 100), 100);
    due("law at first, f", x.lawOn(0, 0, 0), 0);
    due("law at first, t", x.lawOn(0, 0, 1), 0);
    due("visit of none", x.visit(100), NO);
    // SEED 1: the first draw is by 16807, the second by 282475249.
    TavernBench y = new TavernBench();
    for (int i = 0; i < 10; i++) {
      due("grant " + i, grant(y, i * 50, 21, 1), i);
    }
    due("visit, 16807 mod 10", y.visit(21), 7);
    due("visit, 282475249 mod 9", y.visit(21), 282475249 % 9 < 7 ? 282475249 % 9 : 282475249 % 9 + 1);
  }

  private static void feasts() {
    promise = 2;
    TavernBench x = new TavernBench();
    for (int day : OUTSIDE) {
      due("feast(" + day + ")", x.feast(day), BAD);
    }
    due("feast(4000)", x.feast(4000), BAD);
    due("feast(0)", x.feast(0), 1);
    due("feast(3999)", x.feast(3999), 2);
    due("feast(0) again", x.feast(0), NO);
    for (int i = 3; i <= 20; i++) {
      due("feast " + i, x.feast(100 + i), i);
    }
    due("feast, full", x.feast(200), FULL);
    due("feast, full but one already", x.feast(3999), NO);
    due("feast, full but bad", x.feast(4000), BAD);
    due("how many", x.count(2), 20);
    TavernBench y = new TavernBench();
    y.law(0, 0, 3, 10, 20);
    y.law(0, 0, 7, 30, 40);
    due("day 10 is weekday 3", y.lawOn(0, 10, 0), 10);
    y.feast(10);
    due("day 10 is a feast", y.lawOn(0, 10, 0), 30);
    due("day 17 is none", y.lawOn(0, 17, 0), 10);
  }

  private static void laws() {
    promise = 3;
    TavernBench x = new TavernBench();
    for (int n : OUTSIDE) {
      due("law, day " + n, x.law(n, 0, 0, 0, 10), BAD);
      due("law, kind " + n, x.law(0, n, 0, 0, 10), BAD);
      due("law, weekday " + n, x.law(0, 0, n, 0, 10), BAD);
      due("law, f " + n, x.law(0, 0, 0, n, 10), BAD);
      due("law, t " + n, x.law(0, 0, 0, 0, n), BAD);
    }
    due("law, day 4000", x.law(4000, 0, 0, 0, 10), BAD);
    due("law, kind 3", x.law(0, 3, 0, 0, 10), BAD);
    due("law, weekday 8", x.law(0, 0, 8, 0, 10), BAD);
    due("law, f 1440", x.law(0, 0, 0, 1440, 1441), BAD);
    due("law, t 1801", x.law(0, 0, 0, 1439, 1801), BAD);
    due("law, f as t", x.law(0, 0, 0, 1, 1), BAD);
    due("law, t below f", x.law(0, 0, 0, 5, 4), BAD);
    due("law, t 0 alone", x.law(0, 0, 0, 5, 0), BAD);
    due("law, none told", x.count(1), 0);
    due("law, latest of all", x.law(3999, 2, 7, 1439, 1800), 1);
    due("law, shut", x.law(0, 0, 0, 0, 0), 2);
    due("law, one minute", x.law(0, 0, 0, 0, 1), 3);
    due("law, last minute", x.law(0, 0, 6, 1439, 1440), 4);
    for (int i = 5; i <= 40; i++) {
      due("law " + i, x.law(i, i % 3, i % 8, i, i + 1), i);
    }
    due("law, full", x.law(0, 0, 0, 0, 0), FULL);
    due("law, full but bad", x.law(0, 0, 0, 3, 3), BAD);
    due("how many", x.count(1), 40);
  }

  private static void latestLaw() {
    promise = 3;
    TavernBench x = new TavernBench();
    x.law(70, 1, 0, 100, 200);
    x.law(14, 1, 0, 300, 400);
    due("ahead of all", x.lawOn(1, 7, 1), 0);
    due("first day of one", x.lawOn(1, 14, 0), 300);
    due("day ahead of the later", x.lawOn(1, 63, 0), 300);
    due("later day counts, though told first", x.lawOn(1, 70, 0), 100);
    x.law(70, 1, 0, 110, 210);
    due("of one day that told last", x.lawOn(1, 70, 0), 110);
    x.law(69, 1, 0, 120, 220);
    due("an earlier one told last", x.lawOn(1, 70, 1), 210);
    due("another weekday", x.lawOn(1, 71, 1), 0);
    due("another kind", x.lawOn(0, 70, 1), 0);
    x.law(71, 1, 0, 0, 0);
    due("shut from a day on", x.lawOn(1, 77, 1), 0);
    due("shut from a day on, f", x.lawOn(1, 77, 0), 0);
    TavernBench y = new TavernBench();
    y.law(0, 0, 0, 5, 6);
    y.law(0, 0, 0, 0, 0);
    due("shut told last on day 0", y.lawOn(0, 0, 1), 0);
    y.law(0, 0, 0, 7, 8);
    due("told last on day 0", y.lawOn(0, 0, 1), 8);
  }

  private static void rules() {
    promise = 4;
    TavernBench x = new TavernBench();
    for (int n : OUTSIDE) {
      due("rule, what " + n, x.rule(n, 5), BAD);
      due("rule, near " + n, x.rule(0, n), BAD);
      due("rule, heard " + n, x.rule(1, n), BAD);
    }
    due("rule(2, 5)", x.rule(2, 5), BAD);
    due("rule(0, 201)", x.rule(0, 201), BAD);
    due("rule(1, 501)", x.rule(1, 501), BAD);
    due("rule(0, 200)", x.rule(0, 200), 20);
    due("rule(1, 500)", x.rule(1, 500), 100);
    due("rule(0, 0)", x.rule(0, 0), 200);
    due("rule(1, 0)", x.rule(1, 0), 500);
    due("rule(0, 3)", x.rule(0, 3), 0);
    due("rule(1, 4)", x.rule(1, 4), 0);
    due("rule(0, 3) again", x.rule(0, 3), 3);
    due("rule(1, 4) again", x.rule(1, 4), 4);
  }

  private static void objectors() {
    promise = 5;
    TavernBench x = new TavernBench();
    for (int n : OUTSIDE) {
      due("objector, x " + n, x.objector(n, 0, 1), BAD);
      due("objector, y " + n, x.objector(0, n, 1), BAD);
      due("objector, weight " + n, x.objector(0, 0, n), BAD);
    }
    due("objector, x 1000", x.objector(1000, 0, 1), BAD);
    due("objector, y 1000", x.objector(0, 1000, 1), BAD);
    due("objector, weight 0", x.objector(0, 0, 0), BAD);
    due("objector, weight 11", x.objector(0, 0, 11), BAD);
    due("objector 1", x.objector(0, 0, 1), 1);
    due("objector 2", x.objector(999, 999, 10), 2);
    due("objector 3, like the first", x.objector(0, 0, 1), 3);
    for (int i = 4; i <= 20; i++) {
      due("objector " + i, x.objector(i, i, 1), i);
    }
    due("objector, full", x.objector(0, 0, 1), FULL);
    due("objector, full but bad", x.objector(0, 0, 0), BAD);
    due("how many", x.count(3), 20);
  }

  private static void asks() {
    promise = 6;
    TavernBench x = new TavernBench();
    for (int n : OUTSIDE) {
      due("ask, x " + n, x.ask(n, 0, 0, 1, 0, 21), BAD);
      due("ask, y " + n, x.ask(0, n, 0, 1, 0, 21), BAD);
      due("ask, kind " + n, x.ask(0, 0, n, 1, 0, 21), BAD);
      due("ask, worth " + n, x.ask(0, 0, 0, n, 0, 21), BAD);
      due("ask, notice " + n, x.ask(0, 0, 0, 1, n, 21), BAD);
      due("ask, session " + n, x.ask(0, 0, 0, 1, 0, n), BAD);
    }
    due("ask, x 1000", x.ask(1000, 0, 0, 1, 0, 21), BAD);
    due("ask, y 1000", x.ask(0, 1000, 0, 1, 0, 21), BAD);
    due("ask, kind 3", x.ask(0, 0, 3, 1, 0, 21), BAD);
    due("ask, worth 0", x.ask(0, 0, 0, 0, 0, 21), BAD);
    due("ask, worth 100001", x.ask(0, 0, 0, 100001, 0, 21), BAD);
    due("ask, session 4000", x.ask(0, 0, 0, 1, 0, 4000), BAD);
    due("ask, notice behind the session", x.ask(0, 0, 0, 1, 101, 100), BAD);
    due("none refused", x.count(5), 0);
    due("ask, all the greatest", x.ask(999, 999, 2, 100000, 3978, 3999), 0);
    due("granted from that day on", x.on(0, 3998, 0), 0);
    due("granted that day", x.on(0, 3999, 0), 1);
    for (int i = 1; i < 30; i++) {
      due("ask " + i, grant(x, i * 30, 100, i), i);
    }
    due("ask, full", x.ask(0, 500, 0, 1, 0, 100), FULL);
    due("ask, full ahead of judging", x.ask(0, 500, 0, 1, 100, 100), FULL);
    due("ask, full but bad", x.ask(0, 500, 3, 1, 0, 100), BAD);
    due("houses", x.count(0), 30);
    due("none refused by full", x.count(5), 0);
  }

  private static void judgedLate() {
    promise = 6;
    TavernBench x = new TavernBench();
    due("ask, 20 days", x.ask(0, 0, 0, 1, 80, 100), -11);
    due("ask, the same day", x.ask(0, 0, 0, 1, 100, 100), -11);
    due("ask, 21 days", x.ask(0, 0, 0, 1, 79, 100), 0);
    due("ask, late and crowded", x.ask(0, 0, 0, 1, 80, 100), -11);
    x.objector(0, 0, 10);
    x.objector(0, 0, 1);
    due("ask, late, crowded and objected", x.ask(0, 0, 0, 1, 80, 100), -11);
    due("ask, crowded and objected", x.ask(0, 0, 0, 1, 79, 100), -12);
    due("ask, objected", x.ask(0, 50, 0, 1, 79, 100), -13);
    due("refused", x.count(5), 6);
    due("houses", x.count(0), 1);
  }

  private static void judgedCrowded() {
    promise = 6;
    TavernBench x = new TavernBench();
    due("first", x.ask(100, 100, 0, 1, 0, 100), 0);
    due("19.97 away", x.ask(114, 114, 0, 1, 0, 100), -12);
    due("20 away is not nearer", x.ask(112, 116, 0, 1, 0, 100), 1);
    due("no licence yet on the day ahead", x.ask(100, 100, 0, 1, 0, 99), 2);
    x.rule(0, 0);
    due("near 0", x.ask(100, 100, 0, 1, 0, 100), 3);
    x.rule(0, 1);
    due("near 1, same place", x.ask(100, 100, 0, 1, 0, 100), -12);
    due("near 1, one away", x.ask(100, 101, 0, 1, 0, 100), 4);
    TavernBench y = oneHouse(100);
    y.event(0, 200, 6, 0);
    due("licence until surplus", y.ask(0, 0, 0, 1, 0, 199), -12);
    due("none from surplus on", y.ask(0, 0, 0, 1, 0, 200), 1);
    TavernBench z = new TavernBench();
    z.rule(0, 200);
    due("first", z.ask(0, 0, 0, 1, 0, 100), 0);
    due("199.99 away", z.ask(56, 191, 0, 1, 0, 100), -12);
    due("200 away", z.ask(56, 192, 0, 1, 0, 100), 1);
  }

  private static void judgedObjected() {
    promise = 6;
    TavernBench x = new TavernBench();
    x.objector(0, 0, 10);
    due("weight 10", x.ask(0, 0, 0, 1, 0, 100), 0);
    x.objector(60, 80, 1);
    due("weight 11, the last just heard", x.ask(60, 180, 0, 1, 0, 100), 1);
    due("weight 11, both heard", x.ask(0, 80, 0, 1, 0, 100), -13);
    due("the first just heard", x.ask(60, 79, 0, 1, 0, 100), -13);
    due("100 away is heard", x.ask(100, 0, 0, 1, 0, 100), -13);
    due("101 away is not", x.ask(101, 0, 0, 1, 0, 100), 2);
    x.rule(1, 0);
    x.objector(300, 300, 10);
    x.objector(300, 300, 10);
    due("heard 0, the very place", x.ask(300, 300, 0, 1, 0, 100), -13);
    due("heard 0, one away", x.ask(300, 301, 0, 1, 0, 100), 3);
    TavernBench y = new TavernBench();
    y.rule(1, 500);
    y.objector(0, 0, 6);
    y.objector(0, 0, 5);
    due("500 away is heard", y.ask(300, 400, 0, 1, 0, 100), -13);
    due("500.8 away is not", y.ask(301, 400, 0, 1, 0, 100), 0);
  }

  private static void events() {
    promise = 7;
    TavernBench x = oneHouse(100);
    for (int n : OUTSIDE) {
      due("event, house " + n, x.event(n, 100, 2, 0), BAD);
      due("event, day " + n, x.event(0, n, 2, 0), BAD);
      due("event, kind " + n, x.event(0, 100, n, 0), BAD);
      due("event, offence " + n, x.event(0, 100, 0, n), BAD);
      due("event, quashed " + n, x.event(0, 100, 1, n), BAD);
      due("event, condition " + n, x.event(0, 100, 4, n), BAD);
    }
    due("event, house 1", x.event(1, 100, 2, 0), BAD);
    due("event, day 4000", x.event(0, 4000, 2, 0), BAD);
    due("event, kind 7", x.event(0, 100, 7, 0), BAD);
    due("event, offence 100", x.event(0, 100, 0, 100), BAD);
    due("event, quashed 100", x.event(0, 100, 1, 100), BAD);
    due("event, condition 1440", x.event(0, 100, 4, 1440), BAD);
    due("event, bad ahead of NO", x.event(0, 99, 4, 1440), BAD);
    due("offence 99", x.event(0, 100, 0, 99), 1);
    due("quashed 99", x.event(0, 100, 1, 99), 2);
    due("condition 1439", x.event(0, 100, 4, 1439), 3);
    due("death, v not looked at", x.event(0, 3999, 2, -7), 4);
    due("transfer, v not looked at", x.event(0, 3999, 3, 5000), 5);
    due("conditions go, v not looked at", x.event(0, 101, 5, Integer.MIN_VALUE), 6);
    due("surplus, v not looked at", x.event(0, 3999, 6, Integer.MAX_VALUE), 7);
    due("offence 0", x.event(0, 100, 0, 0), 8);
    due("quashed 0", x.event(0, 100, 1, 0), 9);
    due("condition 0", x.event(0, 100, 4, 0), 10);
  }

  private static void eventsRefused() {
    promise = 7;
    TavernBench x = oneHouse(100);
    due("grant", grant(x, 50, 100, 1), 1);
    due("ahead of the grant", x.event(0, 99, 2, 0), NO);
    due("offence ahead of the grant", x.event(0, 99, 0, 1), NO);
    due("on the day of the grant", x.event(0, 100, 0, 1), 1);
    due("offence told already", x.event(0, 200, 0, 1), NO);
    due("another house's of that number", x.event(1, 200, 0, 1), 1);
    due("quashed that was not told", x.event(0, 200, 1, 2), NO);
    due("quashed that another has", x.event(1, 200, 0, 2), 2);
    due("still not told here", x.event(0, 200, 1, 2), NO);
    due("quashed", x.event(0, 200, 1, 1), 2);
    due("offence told already, though quashed", x.event(0, 300, 0, 1), NO);
    due("quashed again", x.event(0, 150, 1, 1), 3);
    for (int i = 4; i <= 16; i++) {
      due("event " + i, x.event(0, 100, 5, 0), i);
    }
    due("full", x.event(0, 100, 5, 0), FULL);
    due("full but NO", x.event(0, 99, 5, 0), NO);
    due("full but told already", x.event(0, 100, 0, 1), NO);
    due("full but not told", x.event(0, 100, 1, 2), NO);
    due("full but BAD", x.event(0, 100, 7, 0), BAD);
    due("the other is not full", x.event(1, 100, 5, 0), 3);
  }

  private static void worths() {
    promise = 8;
    TavernBench x = oneHouse(100);
    for (int n : OUTSIDE) {
      due("worth, house " + n, x.worth(n, 100, 1), BAD);
      due("worth, day " + n, x.worth(0, n, 1), BAD);
      due("worth, w " + n, x.worth(0, 100, n), BAD);
    }
    due("worth, house 1", x.worth(1, 100, 1), BAD);
    due("worth, day 4000", x.worth(0, 4000, 1), BAD);
    due("worth, w 0", x.worth(0, 100, 0), BAD);
    due("worth, w 100001", x.worth(0, 100, 100001), BAD);
    due("worth of the ask", x.on(0, 3999, 3), 100);
    due("second", x.worth(0, 200, 100000), 2);
    due("third, ahead of the grant", x.worth(0, 0, 1), 3);
    due("counts as the day of the grant", x.on(0, 100, 3), 1);
    due("ahead of the grant that of the ask", x.on(0, 99, 3), 100);
    due("day ahead of the second", x.on(0, 199, 3), 1);
    due("day of the second", x.on(0, 200, 3), 100000);
    due("fourth, of the grant's day", x.worth(0, 100, 7), 4);
    due("of one day that told last", x.on(0, 100, 3), 7);
    due("fifth, ahead of the grant", x.worth(0, 99, 8), 5);
    due("of one day that told last", x.on(0, 100, 3), 8);
    due("sixth", x.worth(0, 200, 9), 6);
    due("of one day that told last", x.on(0, 3999, 3), 9);
    due("seventh", x.worth(0, 150, 10), 7);
    due("of an earlier day, told last", x.on(0, 200, 3), 9);
    due("between", x.on(0, 150, 3), 10);
    due("eighth", x.worth(0, 3999, 11), 8);
    due("last day", x.on(0, 3999, 3), 11);
    due("full", x.worth(0, 300, 12), FULL);
    due("full but bad", x.worth(0, 300, 0), BAD);
    due("nothing changed", x.on(0, 300, 3), 9);
  }

  private static void statesOffences() {
    promise = 9;
    TavernBench x = oneHouse(100);
    x.event(0, 2000, 0, 1);
    x.event(0, 3825, 0, 2);
    due("two offences", x.on(0, 3999, 0), 1);
    x.event(0, 3826, 0, 3);
    due("three, but not within 1825 days", x.on(0, 3999, 0), 1);
    TavernBench y = oneHouse(100);
    y.event(0, 3825, 0, 1);
    y.event(0, 2000, 0, 2);
    y.event(0, 3000, 0, 3);
    due("three within 1825 days", y.on(0, 3825, 0), 2);
    due("the day ahead", y.on(0, 3824, 0), 1);
    due("stays so", y.on(0, 3999, 0), 2);
    due("offences on the last", y.on(0, 3825, 1), 3);
    due("offences the day after", y.on(0, 3826, 1), 2);
    TavernBench z = oneHouse(100);
    z.event(0, 100, 0, 1);
    z.event(0, 100, 0, 2);
    z.event(0, 100, 0, 3);
    due("ended on the day of the grant", z.on(0, 100, 0), 2);
    due("ahead of it not granted", z.on(0, 99, 0), 0);
    due("ended long after", z.on(0, 3999, 0), 2);
    due("offences gone", z.on(0, 1926, 1), 0);
    due("offences count", z.on(0, 1925, 1), 3);
    due("offences ahead", z.on(0, 99, 1), 0);
  }

  private static void statesQuashings() {
    promise = 9;
    TavernBench x = oneHouse(100);
    x.event(0, 200, 0, 1);
    x.event(0, 300, 0, 2);
    x.event(0, 400, 0, 3);
    x.event(0, 500, 0, 4);
    x.event(0, 600, 1, 2);
    due("ended", x.on(0, 599, 0), 2);
    due("three others end it still", x.on(0, 600, 0), 2);
    due("three count", x.on(0, 600, 1), 3);
    due("four counted", x.on(0, 599, 1), 4);
    x.event(0, 700, 1, 4);
    due("the day ahead", x.on(0, 699, 0), 2);
    due("given back", x.on(0, 700, 0), 1);
    due("two count", x.on(0, 700, 1), 2);
    x.event(0, 650, 1, 4);
    due("quashed on an earlier day, too", x.on(0, 650, 0), 1);
    due("the day ahead of that", x.on(0, 649, 0), 2);
    x.event(0, 800, 1, 4);
    due("a later quashing changes nothing", x.on(0, 650, 0), 1);
    x.event(0, 800, 0, 5);
    due("ended again", x.on(0, 800, 0), 2);
    due("not ahead of it", x.on(0, 799, 0), 1);
    TavernBench y = oneHouse(100);
    y.event(0, 300, 0, 1);
    y.event(0, 200, 1, 1);
    y.event(0, 310, 0, 2);
    y.event(0, 320, 0, 3);
    due("quashed ahead of its day: never", y.on(0, 320, 0), 1);
    due("two count", y.on(0, 320, 1), 2);
    TavernBench z = oneHouse(100);
    z.event(0, 200, 0, 1);
    z.event(0, 300, 0, 2);
    z.event(0, 400, 0, 3);
    z.event(0, 400, 1, 3);
    due("quashed on its very day", z.on(0, 400, 0), 1);
    z.event(0, 2025, 0, 4);
    due("200 to 2025: three", z.on(0, 2025, 0), 2);
    z.event(0, 2100, 1, 1);
    due("given back", z.on(0, 2100, 0), 1);
  }

  private static void statesDeaths() {
    promise = 9;
    TavernBench x = oneHouse(100);
    x.event(0, 200, 2, 0);
    due("protected on the day", x.on(0, 200, 0), 1);
    due("protected for 28 days", x.on(0, 227, 0), 1);
    due("lapsed", x.on(0, 228, 0), 3);
    due("stays so", x.on(0, 3999, 0), 3);
    x.event(0, 199, 3, 0);
    due("transfer ahead of the death", x.on(0, 228, 0), 3);
    x.event(0, 228, 3, 0);
    due("transfer too late", x.on(0, 228, 0), 3);
    x.event(0, 227, 3, 0);
    due("transfer on the last day", x.on(0, 228, 0), 1);
    x.event(0, 220, 2, 0);
    due("second death, its transfer stands", x.on(0, 3999, 0), 1);
    x.event(0, 3972, 2, 0);
    due("death late in the days", x.on(0, 3999, 0), 1);
    x.event(0, 3971, 2, 0);
    due("lapsed on the last day", x.on(0, 3999, 0), 3);
    due("protected the day ahead", x.on(0, 3998, 0), 1);
    TavernBench y = oneHouse(100);
    y.event(0, 200, 2, 0);
    y.event(0, 200, 3, 0);
    due("transfer on the day of the death", y.on(0, 228, 0), 1);
    y.event(0, 229, 2, 0);
    due("second death without one", y.on(0, 257, 0), 3);
    due("the day ahead", y.on(0, 256, 0), 1);
    TavernBench z = oneHouse(100);
    z.event(0, 210, 3, 0);
    z.event(0, 200, 2, 0);
    due("transfer told ahead of the death", z.on(0, 228, 0), 1);
  }

  private static void statesOrder() {
    promise = 9;
    TavernBench x = oneHouse(100);
    x.event(0, 328, 6, 0);
    due("licence", x.on(0, 327, 0), 1);
    due("surplus", x.on(0, 328, 0), 4);
    x.event(0, 300, 2, 0);
    due("lapsed and surplus on one day", x.on(0, 328, 0), 3);
    x.event(0, 327, 6, 0);
    due("surplus ahead of lapsed", x.on(0, 328, 0), 4);
    due("surplus of the least day", x.on(0, 327, 0), 4);
    x.event(0, 299, 2, 0);
    due("lapsed and surplus on 327", x.on(0, 328, 0), 3);
    for (int i = 0; i < 3; i++) {
      x.event(0, 327, 0, i);
    }
    due("ended, lapsed and surplus on 327", x.on(0, 3999, 0), 2);
    x.event(0, 400, 1, 0);
    due("ended until quashed", x.on(0, 399, 0), 2);
    due("lapsed behind the quashing", x.on(0, 400, 0), 3);
    TavernBench y = oneHouse(100);
    y.event(0, 200, 6, 0);
    for (int i = 0; i < 3; i++) {
      y.event(0, 150 + 30 * i, 0, i);
    }
    due("surplus on 200 ahead of ended on 210", y.on(0, 210, 0), 4);
    y.event(0, 150, 2, 0);
    due("lapsed on 178", y.on(0, 210, 0), 3);
    due("lapsed on 178", y.on(0, 178, 0), 3);
  }

  private static void onOthers() {
    promise = 9;
    TavernBench x = oneHouse(100);
    for (int n : OUTSIDE) {
      due("on, house " + n, x.on(n, 100, 0), BAD);
      due("on, day " + n, x.on(0, n, 0), BAD);
      due("on, what " + n, x.on(0, 100, n), BAD);
    }
    due("on, house 1", x.on(1, 100, 0), BAD);
    due("on, day 4000", x.on(0, 4000, 0), BAD);
    due("on, what 4", x.on(0, 100, 4), BAD);
    due("no condition", x.on(0, 100, 2), NONE);
    x.event(0, 200, 4, 1000);
    x.event(0, 150, 4, 0);
    due("none ahead", x.on(0, 149, 2), NONE);
    due("a condition", x.on(0, 199, 2), 0);
    due("the latest by day", x.on(0, 200, 2), 1000);
    x.event(0, 200, 4, 900);
    due("of one day that told last", x.on(0, 200, 2), 900);
    x.event(0, 250, 3, 0);
    due("it follows the house", x.on(0, 250, 2), 900);
    x.event(0, 300, 5, 0);
    due("conditions there", x.on(0, 299, 2), 900);
    due("conditions gone", x.on(0, 300, 2), NONE);
    x.event(0, 300, 4, 800);
    due("told behind it on the day", x.on(0, 300, 2), 800);
    x.event(0, 300, 5, 0);
    due("gone again", x.on(0, 3999, 2), NONE);
    x.event(0, 120, 5, 0);
    due("one earlier takes nothing away", x.on(0, 150, 2), 0);
  }

  private static void opens() {
    promise = 10;
    TavernBench x = new TavernBench();
    due("ask", x.ask(0, 0, 1, 1, 0, 70), 0);
    for (int n : OUTSIDE) {
      due("open, house " + n, x.open(n, 70, 0), BAD);
      due("open, day " + n, x.open(0, n, 0), BAD);
      due("open, minute " + n, x.open(0, 70, n), BAD);
    }
    due("open, house 1", x.open(1, 70, 0), BAD);
    due("open, day 4000", x.open(0, 4000, 0), BAD);
    due("open, minute 1440", x.open(0, 70, 1440), BAD);
    due("no law", x.open(0, 70, 0), 0);
    for (int weekday = 0; weekday < 7; weekday++) {
      x.law(0, 1, weekday, 600, 1200);
      x.law(0, 0, weekday, 0, 1440);
    }
    due("ahead of f", x.open(0, 70, 599), 0);
    due("f", x.open(0, 70, 600), 1);
    due("last", x.open(0, 70, 1199), 1);
    due("t", x.open(0, 70, 1200), 0);
    due("not granted", x.open(0, 69, 600), 0);
    due("day 0", x.open(0, 0, 600), 0);
    due("last day", x.open(0, 3999, 600), 1);
    x.feast(71);
    due("feast without law", x.open(0, 71, 600), 0);
    x.event(0, 90, 6, 0);
    due("the day ahead of surplus", x.open(0, 89, 600), 1);
    due("surplus", x.open(0, 90, 600), 0);
  }

  private static void opensOverMidnight() {
    promise = 10;
    TavernBench x = new TavernBench();
    due("ask", x.ask(0, 0, 0, 1, 0, 70), 0);
    x.law(0, 0, 0, 1439, 1800);
    x.law(0, 0, 6, 0, 1500);
    due("minute ahead of f", x.open(0, 70, 1438), 0);
    due("f", x.open(0, 70, 1439), 1);
    due("no licence the day ahead", x.open(0, 70, 0), 0);
    due("goes on", x.open(0, 71, 0), 1);
    due("goes on to its last", x.open(0, 71, 359), 1);
    due("t", x.open(0, 71, 360), 0);
    due("goes on into the next week", x.open(0, 77, 59), 1);
    due("t of that", x.open(0, 77, 60), 0);
    x.event(0, 77, 6, 0);
    due("no licence this day", x.open(0, 77, 59), 0);
    TavernBench y = new TavernBench();
    due("ask", y.ask(0, 0, 0, 1, 0, 70), 0);
    y.law(0, 0, 7, 0, 1600);
    y.law(0, 0, 1, 0, 1700);
    y.feast(71);
    due("the feast's law goes on", y.open(0, 72, 159), 1);
    due("not the weekday's", y.open(0, 72, 160), 0);
    due("after no feast the weekday's", y.open(0, 79, 259), 1);
    y.law(72, 0, 7, 0, 0);
    due("by the law of the day ahead", y.open(0, 72, 159), 1);
  }

  private static void opensUnderConditions() {
    promise = 10;
    TavernBench x = new TavernBench();
    due("ask", x.ask(0, 0, 0, 1, 0, 70), 0);
    for (int weekday = 0; weekday < 7; weekday++) {
      x.law(0, 0, weekday, 600, 1500);
    }
    x.event(0, 80, 4, 1000);
    due("goes on the day ahead", x.open(0, 79, 59), 1);
    due("goes on no more", x.open(0, 80, 0), 0);
    due("ahead of v", x.open(0, 80, 999), 1);
    due("v", x.open(0, 80, 1000), 0);
    due("not the day ahead", x.open(0, 79, 1439), 1);
    due("each day", x.open(0, 81, 0), 0);
    due("each day, v", x.open(0, 81, 1000), 0);
    due("each day, ahead of v", x.open(0, 81, 999), 1);
    x.event(0, 85, 5, 0);
    due("no condition on this day", x.open(0, 85, 0), 1);
    due("no condition on this day, v", x.open(0, 85, 1000), 1);
    due("the day ahead", x.open(0, 84, 1000), 0);
    x.event(0, 90, 4, 1439);
    due("v 1439, last but one", x.open(0, 90, 1438), 1);
    due("v 1439, last", x.open(0, 90, 1439), 0);
    due("v 1439, goes on no more", x.open(0, 90, 0), 0);
    x.event(0, 90, 4, 500);
    due("v ahead of f", x.open(0, 90, 600), 0);
  }

  private static void minutesOfDays() {
    promise = 11;
    TavernBench x = new TavernBench();
    due("ask", x.ask(0, 0, 0, 1, 0, 70), 0);
    for (int n : OUTSIDE) {
      due("minutes, house " + n, x.minutes(n, 70), BAD);
      due("minutes, day " + n, x.minutes(0, n), BAD);
    }
    due("minutes, house 1", x.minutes(1, 70), BAD);
    due("minutes, day 4000", x.minutes(0, 4000), BAD);
    due("no law", x.minutes(0, 70), 0);
    x.law(0, 0, 0, 100, 1800);
    x.law(0, 0, 1, 300, 400);
    x.law(0, 0, 2, 0, 1440);
    x.law(0, 0, 3, 100, 1560);
    x.law(0, 0, 4, 200, 260);
    x.law(0, 0, 6, 1400, 1800);
    due("first day, to midnight", x.minutes(0, 70), 1340);
    due("not granted", x.minutes(0, 69), 0);
    due("day 0", x.minutes(0, 0), 0);
    due("goes on into the opening", x.minutes(0, 71), 400);
    due("a whole day", x.minutes(0, 72), 1440);
    due("to midnight", x.minutes(0, 73), 1340);
    due("goes on, then shut, then open", x.minutes(0, 74), 180);
    due("shut", x.minutes(0, 75), 0);
    due("late", x.minutes(0, 76), 40);
    due("goes on beyond f", x.minutes(0, 77), 1440);
    x.law(78, 0, 1, 300, 350);
    due("opening within what goes on", x.minutes(0, 78), 360);
    x.event(0, 80, 4, 220);
    due("under a condition", x.minutes(0, 81), 20);
    x.event(0, 81, 4, 200);
    due("v is f", x.minutes(0, 81), 0);
    x.event(0, 85, 4, 0);
    due("v 0", x.minutes(0, 87), 0);
    x.event(0, 91, 5, 0);
    due("no condition, and what goes on", x.minutes(0, 91), 1440);
    x.event(0, 92, 6, 0);
    due("no licence", x.minutes(0, 92), 0);
  }

  private static void lawsOnDays() {
    promise = 12;
    TavernBench x = new TavernBench();
    x.law(10, 2, 4, 1, 1800);
    for (int n : OUTSIDE) {
      due("lawOn, kind " + n, x.lawOn(n, 11, 0), BAD);
      due("lawOn, day " + n, x.lawOn(2, n, 0), BAD);
      due("lawOn, what " + n, x.lawOn(2, 11, n), BAD);
    }
    due("lawOn, kind 3", x.lawOn(3, 11, 0), BAD);
    due("lawOn, day 4000", x.lawOn(2, 4000, 0), BAD);
    due("lawOn, what 2", x.lawOn(2, 11, 2), BAD);
    due("f", x.lawOn(2, 11, 0), 1);
    due("t", x.lawOn(2, 11, 1), 1800);
    due("ahead of its day", x.lawOn(2, 4, 1), 0);
    due("another weekday", x.lawOn(2, 12, 1), 0);
    due("another kind", x.lawOn(1, 11, 1), 0);
    due("last such day, 3994", x.lawOn(2, 3994, 1), 1800);
    x.feast(11);
    due("a feast has no weekday of the week", x.lawOn(2, 11, 1), 0);
    x.law(11, 2, 7, 5, 6);
    due("a feast's", x.lawOn(2, 11, 1), 6);
  }

  private static void owesParts() {
    promise = 13;
    TavernBench x = new TavernBench();
    due("grant 0", grant(x, 0, 100, 1), 0);
    due("grant 1", grant(x, 50, 100, 1), 1);
    due("grant 2", grant(x, 100, 100, 1), 2);
    due("grant 3", grant(x, 150, 100, 1), 3);
    due("grant 4", grant(x, 200, 100, 3), 4);
    for (int n : OUTSIDE) {
      due("owes, house " + n, x.owes(n, 4), BAD);
      due("owes, s " + n, x.owes(0, n), BAD);
    }
    due("owes, house 5", x.owes(5, 4), BAD);
    due("owes, s 5", x.owes(0, 5), BAD);
    due("not surplus", x.owes(0, 4), NO);
    due("not surplus, itself", x.owes(4, 4), NO);
    x.event(4, 200, 6, 0);
    // 9 among four of like worth: 2 each, and one to house 0.
    due("part 0", x.owes(0, 4), 3);
    due("part 1", x.owes(1, 4), 2);
    due("part 2", x.owes(2, 4), 2);
    due("part 3", x.owes(3, 4), 2);
    due("itself", x.owes(4, 4), 0);
    x.worth(1, 150, 2);
    // 9 by 1, 2, 1, 1: 1.8, 3.6, 1.8, 1.8; cut 1, 3, 1, 1 leaves three.
    due("part 0 of 5", x.owes(0, 4), 2);
    due("part 1 of 5", x.owes(1, 4), 3);
    due("part 2 of 5", x.owes(2, 4), 2);
    due("part 3 of 5", x.owes(3, 4), 2);
    TavernBench y = new TavernBench();
    due("grant 0", grant(y, 0, 100, 100000), 0);
    due("grant 1", grant(y, 50, 100, 99999), 1);
    due("grant 2", grant(y, 100, 100, 99998), 2);
    y.event(0, 100, 6, 0);
    // 300000 * 99999 / 199997 = 150000.75, 300000 * 99998 / 199997 = 149999.25
    due("great part 1", y.owes(1, 0), 150001);
    due("great part 2", y.owes(2, 0), 149999);
  }

  private static void owesDays() {
    promise = 13;
    TavernBench x = new TavernBench();
    due("grant 0", grant(x, 0, 100, 10), 0);
    due("grant 1", grant(x, 50, 100, 10), 1);
    due("grant 2", grant(x, 100, 150, 10), 2);
    due("grant 3", grant(x, 150, 100, 10), 3);
    x.event(0, 200, 6, 0);
    due("all others", x.owes(3, 0), 10);
    x.event(0, 140, 6, 0);
    due("first by day: 2 has no licence then", x.owes(2, 0), 0);
    due("so 1 pays half", x.owes(1, 0), 15);
    x.worth(0, 141, 5000);
    due("its worth of that day", x.owes(1, 0), 15);
    x.worth(0, 140, 20);
    due("its worth on that day", x.owes(1, 0), 30);
    x.worth(1, 140, 20);
    due("the payer's worth on that day", x.owes(1, 0), 40);
    due("and the other's part", x.owes(3, 0), 20);
    x.event(3, 140, 6, 0);
    due("surplus on the same day: no licence", x.owes(3, 0), 0);
    due("one pays whole", x.owes(1, 0), 60);
    due("one pays the other, too", x.owes(1, 3), 30);
    due("none from surplus to surplus", x.owes(0, 3), 0);
    x.event(1, 110, 2, 0);
    due("lapsed on 138", x.owes(1, 0), 0);
    TavernBench y = oneHouse(100);
    y.event(0, 100, 6, 0);
    due("no others", y.owes(0, 0), 0);
    TavernBench z = oneHouse(100);
    due("grant 1", grant(z, 50, 100, 9), 1);
    z.event(0, 100, 2, 0);
    z.event(0, 300, 6, 0);
    due("lapsed, then surplus", z.on(0, 300, 0), 3);
    due("still bought out by that event", z.owes(1, 0), 300);
  }

  private static void visits() {
    promise = 14;
    TavernBench x = new TavernBench();
    for (int day : OUTSIDE) {
      due("visit(" + day + ")", x.visit(day), BAD);
    }
    due("visit(4000)", x.visit(4000), BAD);
    due("visit, no house", x.visit(100), NO);
    for (int i = 0; i < 5; i++) {
      due("grant " + i, grant(x, 50 * i, 100 + 100 * (i / 3), 1), i);
    }
    due("visit, none granted", x.visit(99), NO);
    due("seed", x.seed(10), 0);
    due("visit, none granted", x.visit(99), NO);
    due("visit, bad", x.visit(4000), BAD);
    // 168070 mod 5 = 0; SEED was not drawn by what was refused.
    due("first", x.visit(200), 0);
    // 168070 * 16807 mod 2147483647 = 677268843; mod 2 = 1 of 1, 2
    due("second, of those with a licence", x.visit(100), 2);
    // 677268843 * 16807 mod 2147483647 = 1194115201; mod 3 = 1 of 1, 3, 4
    due("third", x.visit(200), 3);
    due("visits", x.count(4), 3);
    x.event(1, 150, 6, 0);
    // only 4 is left with a licence
    due("fourth", x.visit(200), 4);
    due("visits", x.count(4), 4);
  }

  private static void visitRounds() {
    promise = 14;
    TavernBench x = new TavernBench();
    due("grant 0", grant(x, 0, 100, 1), 0);
    due("grant 1", grant(x, 50, 200, 1), 1);
    due("one", x.visit(100), 0);
    due("the round is not over", x.count(4), 1);
    // 282475249 draws 1 of one
    due("the other, in the same round", x.visit(200), 1);
    due("the round is full", x.count(4), 2);
    due("refused: the round stays", x.visit(99), NO);
    due("the round stays", x.count(4), 2);
    // 1622650073 mod 1 of 0: all on day 100 were visited, so a new round
    due("a new round", x.visit(100), 0);
    due("with one visit", x.count(4), 1);
    due("the other again", x.visit(200), 1);
    due("two again", x.count(4), 2);
  }

  private static void seeds() {
    promise = 15;
    TavernBench x = new TavernBench();
    due("seed(0)", x.seed(0), BAD);
    due("seed(-1)", x.seed(-1), BAD);
    due("seed(least)", x.seed(Integer.MIN_VALUE), BAD);
    due("seed(2147483647)", x.seed(Integer.MAX_VALUE), BAD);
    for (int i = 0; i < 7; i++) {
      due("grant " + i, grant(x, 50 * i, 100, 1), i);
    }
    due("seed(1)", x.seed(1), 0);
    due("16807 mod 7", x.visit(100), 0);
    due("bad seed", x.seed(0), BAD);
    due("round goes on", x.count(4), 1);
    due("seed(1) again", x.seed(1), 0);
    due("a new round", x.count(4), 0);
    due("16807 mod 7 again", x.visit(100), 0);
    due("seed(2147483646)", x.seed(2147483646), 0);
    // (2147483647 - 16807) mod 7 = 2147466840 mod 7
    due("the greatest seed", x.visit(100), 2147466840 % 7);
  }

  private static void counts() {
    promise = 16;
    TavernBench x = new TavernBench();
    for (int what : OUTSIDE) {
      due("count(" + what + ")", x.count(what), BAD);
    }
    due("count(6)", x.count(6), BAD);
    x.law(0, 0, 0, 0, 0);
    for (int i = 0; i < 2; i++) {
      x.feast(i);
    }
    for (int i = 0; i < 3; i++) {
      x.objector(900, 900, 10);
    }
    for (int i = 0; i < 4; i++) {
      grant(x, 50 * i, 100, 1);
    }
    for (int i = 0; i < 3; i++) {
      x.visit(100);
    }
    for (int i = 0; i < 2; i++) {
      x.ask(0, 0, 0, 1, 90, 100);
      x.ask(0, 0, 0, 1, 0, 100);
      x.ask(900, 900, 0, 1, 0, 100);
    }
    x.ask(0, 0, 3, 1, 0, 100);
    due("houses", x.count(0), 4);
    due("laws", x.count(1), 1);
    due("feasts", x.count(2), 2);
    due("objectors", x.count(3), 3);
    due("visits", x.count(4), 3);
    due("refused asks", x.count(5), 6);
    TavernBench y = new TavernBench();
    due("another object has its own", y.count(0), 0);
  }
}
