/** Promises 16 and 17 and PLANNING: each sentence that names a boundary has its own test. */
public final class EdgesOfPlansTest {
  private static final Class<IllegalStateException> STATE = IllegalStateException.class;
  private static final Class<IndexOutOfBoundsException> BOUNDS = IndexOutOfBoundsException.class;
  private static final int LEAST = Integer.MIN_VALUE;
  private static final int GREATEST = Integer.MAX_VALUE;
  private static final Check CHECK = new Check("EdgesOfPlansTest");

  public static void main(String[] args) {
    CHECK.sentence("16: IllegalStateException: it has no sources", EdgesOfPlansTest::planWithoutSources);
    CHECK.sentence("16: or no outputs", EdgesOfPlansTest::planWithoutOutputs);
    CHECK.sentence("16: or was planned", EdgesOfPlansTest::planOfAPlannedQuestion);
    CHECK.sentence("16: it is under way then, with no step made", EdgesOfPlansTest::planMakesNoStep);
    CHECK.sentence("Terms: VALUES: how many different ones a column has; LEAST and GREATEST of them",
        EdgesOfPlansTest::valuesOfTheRowsThatAreThere);
    CHECK.sentence("Terms: =: 1 / v", EdgesOfPlansTest::shareOfEqual);
    CHECK.sentence("Terms: not equal: 1 - 1 / v", EdgesOfPlansTest::shareOfNotEqual);
    CHECK.sentence("Terms: <: (number - LEAST) / (GREATEST - LEAST + 1)", EdgesOfPlansTest::shareOfLess);
    CHECK.sentence("Terms: >: (GREATEST - number) / (GREATEST - LEAST + 1)",
        EdgesOfPlansTest::shareOfGreater);
    CHECK.sentence("Terms: differences made in longs (number - LEAST)",
        EdgesOfPlansTest::longNumberMinusLeast);
    CHECK.sentence("Terms: differences made in longs (GREATEST - number)",
        EdgesOfPlansTest::longGreatestMinusNumber);
    CHECK.sentence("Terms: differences made in longs (GREATEST - LEAST + 1)",
        EdgesOfPlansTest::longGreatestMinusLeast);
    CHECK.sentence("Terms: what is below 0 counts as 0", EdgesOfPlansTest::shareBelowNothing);
    CHECK.sentence("Terms: above 1 as 1", EdgesOfPlansTest::shareAboveAll);
    CHECK.sentence("Terms: The SHARE of a join, for the source that comes later: 1 / v of its column",
        EdgesOfPlansTest::shareOfAJoin);
    CHECK.sentence("Terms: for the source that comes later: 1 / v of its column (for the join's way)",
        EdgesOfPlansTest::shareOfAJoinInItsWay);
    CHECK.sentence("Terms: (Without rows each SHARE is 0.)", EdgesOfPlansTest::shareWithoutRows);
    CHECK.sentence("Terms: All numbers are floats, divisions of two ints are made in floats",
        EdgesOfPlansTest::divisionsInFloats);
    CHECK.sentence("Terms: sums and products are made in the order that is written (COUNT)",
        EdgesOfPlansTest::productsInTheirOrder);
    CHECK.sentence("Terms: for each condition on it, times its SHARE, then for each join",
        EdgesOfPlansTest::sharesOfConditionsBeforeThoseOfJoins);
    CHECK.sentence("Terms: sums and products are made in the order that is written (COST)",
        EdgesOfPlansTest::sumsInTheirOrder);
    CHECK.sentence("Terms: SCAN: n rows are read", EdgesOfPlansTest::scanReadsAllRows);
    CHECK.sentence("Terms: with = and a HASH index of its column: 1 + n * SHARE rows",
        EdgesOfPlansTest::hashWayOfACondition);
    CHECK.sentence("Terms: with =, < or > and an ORDERED index: 2 + n * SHARE",
        EdgesOfPlansTest::orderedWayOfACondition);
    CHECK.sentence("Terms: for each join of it with a source before, likewise as with =",
        EdgesOfPlansTest::waysOfJoinsWithSourcesBefore);
    CHECK.sentence("Terms: The way with the fewest rows R is taken", EdgesOfPlansTest::fewestRows);
    CHECK.sentence("Terms: of several the first (SCAN)", EdgesOfPlansTest::scanBeforeEqualWays);
    CHECK.sentence("Terms: WAYS of reading it are, in this order", EdgesOfPlansTest::hashBeforeOrdered);
    CHECK.sentence("Terms: of several the first (conditions, in their order)",
        EdgesOfPlansTest::firstOfEqualConditions);
    CHECK.sentence("Terms: of several the first (conditions, then joins)",
        EdgesOfPlansTest::conditionBeforeEqualJoin);
    CHECK.sentence("Terms: of several the first (joins, in their order)",
        EdgesOfPlansTest::firstOfEqualJoins);
    CHECK.sentence("Terms: The PLAN is the order of the sources with the least COST",
        EdgesOfPlansTest::leastCostOfThree);
    CHECK.sentence("Terms: of several the first of these: 0 1 2, 0 2 1, 1 0 2, 1 2 0, 2 0 1, 2 1 0",
        EdgesOfPlansTest::firstOfEqualOrdersOfThree);
    CHECK.sentence("Terms: (of two: 0 1, 1 0)", EdgesOfPlansTest::firstOfEqualOrdersOfTwo);
    CHECK.sentence("17: IndexOutOfBoundsException: there is no plan", EdgesOfPlansTest::explainWithoutPlan);
    CHECK.sentence("17: or no such source", EdgesOfPlansTest::explainOfNoSource);
    CHECK.sentence("17: or what", EdgesOfPlansTest::explainOfNoWhat);
    CHECK.sentence("17: the number of the condition (2) or join (3) of the way, -1 without",
        EdgesOfPlansTest::explainWithout);
    CHECK.end();
  }

  private static void planWithoutSources() {
    QueryDesk desk = new QueryDesk();
    CHECK.fails("a new object", STATE, desk::plan);
    desk.create(0, 1);
    desk.insert(0, 1, 0, 0, 0);
    CHECK.fails("a table", STATE, desk::plan);
    desk.limit(3);
    CHECK.fails("a limit", STATE, desk::plan);
    CHECK.same("not planned", desk.look(0), 0);
    CHECK.fails("no plan", BOUNDS, () -> desk.explain(0, 0));
  }

  private static void planWithoutOutputs() {
    QueryDesk desk = Desks.of(new int[] {1, 2});
    for (int sources = 1; sources <= 3; sources++) {
      desk.from(0);
      desk.where(sources - 1, 0, 2, 0);
      CHECK.fails("sources " + sources, STATE, desk::plan);
      CHECK.same("not planned", desk.look(0), 0);
      CHECK.fails("no plan", BOUNDS, () -> desk.explain(0, 0));
    }
    CHECK.same("more can be added", desk.select(0, 0), 0);
    CHECK.sameFloat("then it is planned", desk.plan(), 2f + 4f + 8f);
  }

  private static void planOfAPlannedQuestion() {
    for (int stage = 1; stage <= 3; stage++) {
      QueryDesk desk = Desks.of(new int[] {1, 2, 3});
      Desks.ask(desk, 0);
      desk.plan();
      desk.run(stage == 2 ? 200 : 2);
      if (stage == 3) {
        desk.index(0, 0, 0);
      }
      CHECK.fails("at stage " + stage, STATE, desk::plan);
      CHECK.same("the stage stays", desk.look(0), stage);
      CHECK.same("the steps stay", desk.look(1), stage == 2 ? 3 : 2);
    }
  }

  private static void planMakesNoStep() {
    QueryDesk desk = Desks.of(new int[] {1, 2, 3});
    desk.create(1, 1);
    int[] tables = {0, 1};
    for (int table : tables) {
      Desks.ask(desk, table);
      desk.plan();
      CHECK.same("under way", desk.look(0), 1);
      CHECK.same("no step", desk.look(1), 0);
      CHECK.same("no answer", desk.look(2), 0);
      CHECK.fails("not answered", STATE, () -> desk.answer(0, 0));
      Desks.finish(desk);
    }
  }

  /** The cost of reading values under a condition and then 24 rows shows the condition's SHARE. */
  private static float costWith(int operator, int number, int... values) {
    QueryDesk desk = Desks.of(values);
    Desks.fill(desk, 1, Desks.turns(24, 24));
    return costOf(desk, operator, number);
  }

  private static float costOf(QueryDesk desk, int operator, int number) {
    Desks.ask(desk, 0, 1);
    desk.where(0, 0, operator, number);
    float cost = desk.plan();
    CHECK.same("source 0 comes first", desk.explain(0, 0), 0);
    return cost;
  }

  private static float dueWith(float rows, float share) {
    return rows + rows * share * 24f;
  }

  private static void valuesOfTheRowsThatAreThere() {
    int[][] columns = {{-90, 3, 3, 10}, {90, 3, 3, 10}, {3, 3, 10, -90}, {3, 3, 10, 90}};
    for (int[] column : columns) {
      QueryDesk desk = Desks.of(column);
      Desks.fill(desk, 1, Desks.turns(24, 24));
      desk.delete(0, column[0] == 3 ? 3 : 0);
      CHECK.sameFloat("LEAST without the row taken out", costOf(desk, 1, 5), dueWith(3f, 2f / 8f));
      CHECK.sameFloat("GREATEST without the row taken out", costOf(desk, 2, 5), dueWith(3f, 5f / 8f));
      CHECK.sameFloat("VALUES without the row taken out", costOf(desk, 0, 5), dueWith(3f, 1f / 2f));
    }
    QueryDesk desk = Desks.of(new int[] {3, 3, 10});
    Desks.fill(desk, 1, Desks.turns(24, 24));
    desk.update(0, 0, 0, 4);
    desk.update(0, 1, 0, 5);
    desk.update(0, 2, 0, 7);
    CHECK.sameFloat("LEAST of those changed", costOf(desk, 1, 5), dueWith(3f, 1f / 4f));
    CHECK.sameFloat("GREATEST of those changed", costOf(desk, 2, 5), dueWith(3f, 2f / 4f));
    CHECK.sameFloat("VALUES of those changed", costOf(desk, 0, 5), dueWith(3f, 1f / 3f));
  }

  private static void shareOfEqual() {
    CHECK.sameFloat("one row", costWith(0, 5, 5), dueWith(1f, 1f));
    CHECK.sameFloat("one value", costWith(0, 5, 5, 5, 5), dueWith(3f, 1f));
    CHECK.sameFloat("two values, far apart", costWith(0, 5, 5, 9, 5, 5), dueWith(4f, 0.5f));
    CHECK.sameFloat("all different", costWith(0, 5, LEAST, GREATEST, 0, -1, 1), dueWith(5f, 1f / 5f));
    CHECK.sameFloat("a number that is not there", costWith(0, 77, 5, 9, 5, 5), dueWith(4f, 0.5f));
    CHECK.sameFloat("24 values", costWith(0, 5, Desks.turns(24, 24)), dueWith(24f, 1f / 24f));
  }

  private static void shareOfNotEqual() {
    CHECK.sameFloat("one row", costWith(3, 5, 5), dueWith(1f, 0f));
    CHECK.sameFloat("one value", costWith(3, 5, 5, 5, 5), dueWith(3f, 0f));
    CHECK.sameFloat("one value, another number", costWith(3, 6, 5, 5, 5), dueWith(3f, 0f));
    CHECK.sameFloat("two values", costWith(3, 5, 5, 9, 5, 5), dueWith(4f, 0.5f));
    CHECK.sameFloat("23 values", costWith(3, 5, Desks.turns(23, 23)), dueWith(23f, 1f - 1f / 23f));
  }

  private static void shareOfLess() {
    CHECK.sameFloat("inside", costWith(1, 6, 3, 10, 4), dueWith(3f, 3f / 8f));
    CHECK.sameFloat("one above LEAST", costWith(1, 4, 3, 10, 4), dueWith(3f, 1f / 8f));
    CHECK.sameFloat("LEAST", costWith(1, 3, 3, 10, 4), dueWith(3f, 0f));
    CHECK.sameFloat("GREATEST", costWith(1, 10, 3, 10, 4), dueWith(3f, 7f / 8f));
    CHECK.sameFloat("one above GREATEST", costWith(1, 11, 3, 10, 4), dueWith(3f, 1f));
    CHECK.sameFloat("LEAST comes last", costWith(1, 6, 10, 4, 3), dueWith(3f, 3f / 8f));
    CHECK.sameFloat("below 0", costWith(1, -6, -3, -10, -4), dueWith(3f, 4f / 8f));
    CHECK.sameFloat("one value, it", costWith(1, 5, 5, 5), dueWith(2f, 0f));
    CHECK.sameFloat("one value, one above", costWith(1, 6, 5, 5), dueWith(2f, 1f));
  }

  private static void shareOfGreater() {
    CHECK.sameFloat("inside", costWith(2, 5, 3, 10, 4), dueWith(3f, 5f / 8f));
    CHECK.sameFloat("one below GREATEST", costWith(2, 9, 3, 10, 4), dueWith(3f, 1f / 8f));
    CHECK.sameFloat("GREATEST", costWith(2, 10, 3, 10, 4), dueWith(3f, 0f));
    CHECK.sameFloat("LEAST", costWith(2, 3, 3, 10, 4), dueWith(3f, 7f / 8f));
    CHECK.sameFloat("one below LEAST", costWith(2, 2, 3, 10, 4), dueWith(3f, 1f));
    CHECK.sameFloat("GREATEST comes first", costWith(2, 5, 10, 4, 3), dueWith(3f, 5f / 8f));
    CHECK.sameFloat("GREATEST comes last", costWith(2, 5, 4, 3, 10), dueWith(3f, 5f / 8f));
    CHECK.sameFloat("below 0", costWith(2, -6, -3, -10, -4), dueWith(3f, 3f / 8f));
    CHECK.sameFloat("one value, it", costWith(2, 5, 5, 5), dueWith(2f, 0f));
    CHECK.sameFloat("one value, one below", costWith(2, 4, 5, 5), dueWith(2f, 1f));
  }

  private static void longNumberMinusLeast() {
    CHECK.sameFloat("wraps to the least int", costWith(1, 0, LEAST, GREATEST), dueWith(2f, 0.5f));
    CHECK.sameFloat("wraps to -1", costWith(1, GREATEST, LEAST, GREATEST), dueWith(2f, 1f));
    CHECK.sameFloat("wraps to below 0", costWith(1, 1 << 30, LEAST, GREATEST), dueWith(2f, 0.75f));
    CHECK.sameFloat("wraps to above 0", costWith(1, LEAST, 5, GREATEST), dueWith(2f, 0f));
    CHECK.sameFloat("far above all", costWith(1, GREATEST, LEAST, LEAST + 3), dueWith(2f, 1f));
  }

  private static void longGreatestMinusNumber() {
    CHECK.sameFloat("wraps to the least int", costWith(2, -1, LEAST, GREATEST), dueWith(2f, 0.5f));
    CHECK.sameFloat("wraps to -1", costWith(2, LEAST, LEAST, GREATEST), dueWith(2f, 1f));
    CHECK.sameFloat("wraps to below 0", costWith(2, -(1 << 30) - 1, LEAST, GREATEST), dueWith(2f, 0.75f));
    CHECK.sameFloat("wraps to above 0", costWith(2, GREATEST, LEAST, -5), dueWith(2f, 0f));
    CHECK.sameFloat("far below all", costWith(2, LEAST, GREATEST - 3, GREATEST), dueWith(2f, 1f));
  }

  private static void longGreatestMinusLeast() {
    CHECK.sameFloat("wraps to 0, <", costWith(1, LEAST + (1 << 28), LEAST, GREATEST), dueWith(2f, 1f / 16f));
    CHECK.sameFloat("wraps to 0, >", costWith(2, GREATEST - (1 << 28), LEAST, GREATEST), dueWith(2f, 1f / 16f));
    CHECK.sameFloat("+ 1 wraps, <", costWith(1, 1 << 29, 0, GREATEST), dueWith(2f, 0.25f));
    CHECK.sameFloat("+ 1 wraps, >", costWith(2, GREATEST - (1 << 29), 0, GREATEST), dueWith(2f, 0.25f));
    CHECK.sameFloat("wraps to below 0", costWith(1, 0, -(1 << 30), (1 << 30) + (1 << 30) - 1), dueWith(2f, 1f / 3f));
  }

  private static void shareBelowNothing() {
    int[] below = {2, 0, -100, LEAST};
    for (int number : below) {
      CHECK.sameFloat("< " + number, costWith(1, number, 3, 10), 2f);
    }
    int[] above = {11, 13, 100, GREATEST};
    for (int number : above) {
      CHECK.sameFloat("> " + number, costWith(2, number, 3, 10), 2f);
    }
    QueryDesk desk = Desks.of(Desks.turns(9, 9));
    desk.index(0, 0, 1);
    Desks.ask(desk, 0);
    desk.where(0, 0, 1, -1000);
    CHECK.sameFloat("an ORDERED way to no row", desk.plan(), 2f);
  }

  private static void shareAboveAll() {
    int[] above = {11, 12, 20, GREATEST};
    for (int number : above) {
      CHECK.sameFloat("< " + number, costWith(1, number, 3, 10), dueWith(2f, 1f));
    }
    int[] below = {2, 1, -20, LEAST};
    for (int number : below) {
      CHECK.sameFloat("> " + number, costWith(2, number, 3, 10), dueWith(2f, 1f));
    }
  }

  private static void shareOfAJoin() {
    for (int turned = 0; turned < 2; turned++) {
      QueryDesk desk = Desks.of(new int[] {7, 8});
      Desks.fill(desk, 1, Desks.turns(6, 6), Desks.turns(6, 3));
      Desks.fill(desk, 2, Desks.turns(24, 24));
      Desks.ask(desk, 0, 1, 2);
      if (turned == 0) {
        desk.join(0, 0, 1, 1);
      } else {
        desk.join(1, 1, 0, 0);
      }
      CHECK.sameFloat("source 1 is the later one", desk.plan(), 2f + 2f * 6f + 2f * 6f * (1f / 3f) * 24f);
      CHECK.sameText("the plan", Desks.plan(desk, 3), "0,0,-1,-1 1,0,-1,-1 2,0,-1,-1");
      Desks.ask(desk, 1, 0, 2);
      desk.join(0, 1, 1, 0);
      CHECK.sameFloat("table 1 is the later one", desk.plan(), 2f + 2f * 6f + 2f * 6f * (1f / 3f) * 24f);
      CHECK.sameText("the plan", Desks.plan(desk, 3), "1,0,-1,-1 0,0,-1,-1 2,0,-1,-1");
    }
  }

  private static void shareOfAJoinInItsWay() {
    QueryDesk desk = Desks.of(Desks.turns(3, 3));
    Desks.fill(desk, 1, Desks.turns(12, 2));
    desk.index(1, 0, 0);
    Desks.ask(desk, 0, 1);
    desk.join(0, 0, 1, 0);
    CHECK.sameFloat("fewer values in the later source", desk.plan(), 3f + 3f * (1f + 12f * (1f / 2f)));
    Desks.ask(desk, 1, 0);
    desk.join(0, 0, 1, 0);
    CHECK.sameFloat("turned round", desk.plan(), 3f + 3f * (1f + 12f * (1f / 2f)));
  }

  private static void shareWithoutRows() {
    for (int operator = 0; operator < 4; operator++) {
      QueryDesk desk = Desks.of(Desks.turns(4, 4));
      desk.create(1, 1);
      desk.index(1, 0, 0);
      desk.index(1, 0, 1);
      Desks.ask(desk, 1);
      desk.where(0, 0, operator, 3);
      CHECK.sameFloat("one source", desk.plan(), 0f);
      CHECK.sameText("its plan", Desks.plan(desk, 1), "0,0,-1,-1");
      Desks.ask(desk, 0, 1);
      desk.where(1, 0, operator, 3);
      desk.join(0, 0, 1, 0);
      CHECK.sameFloat("two sources", desk.plan(), 0f);
      CHECK.sameText("their plan", Desks.plan(desk, 2), "1,0,-1,-1 0,0,-1,-1");
      Desks.ask(desk, 1, 1, 1);
      desk.where(1, 0, operator, 3);
      desk.join(0, 0, 1, 0);
      desk.join(1, 0, 2, 0);
      CHECK.sameFloat("three sources", desk.plan(), 0f);
      CHECK.sameText("their plan", Desks.plan(desk, 3), "0,0,-1,-1 1,0,-1,-1 2,0,-1,-1");
    }
  }

  private static void divisionsInFloats() {
    CHECK.sameFloat("1 - 1 / 3", costWith(3, 0, 1, 2, 3), 3f + 3f * (1f - 1f / 3f) * 24f);
    CHECK.sameFloat("ints that a float cannot hold", costWith(1, 16777217, 0, 16777222),
        dueWith(2f, 16777216f / 16777224f));
    QueryDesk desk = Desks.of(Desks.turns(11, 7));
    desk.index(0, 0, 1);
    Desks.ask(desk, 0);
    desk.where(0, 0, 0, 3);
    CHECK.sameFloat("2 + 11 / 7", desk.plan(), 3.5714288f);
    desk.index(0, 0, 0);
    Desks.ask(desk, 0);
    desk.where(0, 0, 0, 3);
    CHECK.sameFloat("1 + 11 / 7", desk.plan(), 2.5714288f);
  }

  private static void productsInTheirOrder() {
    QueryDesk desk = Desks.of(Desks.turns(7, 5), Desks.turns(7, 3));
    Desks.fill(desk, 1, Desks.turns(20, 20));
    Desks.ask(desk, 0, 1);
    desk.where(0, 0, 0, 1);
    desk.where(0, 1, 0, 1);
    CHECK.sameFloat("five values, then three", desk.plan(), 16.333332f);
    Desks.ask(desk, 0, 1);
    desk.where(0, 1, 0, 1);
    desk.where(0, 0, 0, 1);
    CHECK.sameFloat("three values, then five", desk.plan(), 16.333334f);
  }

  private static void sharesOfConditionsBeforeThoseOfJoins() {
    QueryDesk desk = Desks.of(new int[] {1});
    Desks.fill(desk, 1, Desks.turns(6, 3), Desks.turns(6, 5));
    Desks.fill(desk, 2, Desks.turns(20, 20));
    Desks.ask(desk, 0, 1, 2);
    desk.join(1, 1, 0, 0);
    desk.where(1, 0, 0, 1);
    CHECK.sameFloat("three values, then the join's five", desk.plan(), 15f);
    CHECK.sameText("the plan", Desks.plan(desk, 3), "0,0,-1,-1 1,0,-1,-1 2,0,-1,-1");
    Desks.ask(desk, 0, 1, 2);
    desk.join(1, 0, 0, 0);
    desk.where(1, 1, 0, 1);
    CHECK.sameFloat("five values, then the join's three", desk.plan(), 15.000001f);
  }

  private static void sumsInTheirOrder() {
    QueryDesk desk = Desks.of(Desks.turns(4, 3));
    Desks.fill(desk, 1, Desks.turns(4, 3));
    Desks.fill(desk, 2, Desks.turns(24, 24));
    Desks.ask(desk, 0, 1, 2);
    desk.where(0, 0, 0, 1);
    desk.where(1, 0, 0, 1);
    float first = 4f * (1f / 3f);
    float second = first * 4f * (1f / 3f);
    CHECK.sameFloat("three sources", desk.plan(), 4f + first * 4f + second * 24f);
    CHECK.sameFloat("which is", 4f + first * 4f + second * 24f, 52.000008f);
  }

  private static void scanReadsAllRows() {
    for (int n = 0; n <= 24; n++) {
      QueryDesk desk = new QueryDesk();
      Desks.fill(desk, 1, Desks.turns(n, 5));
      Desks.ask(desk, 1);
      desk.where(0, 0, 0, 1);
      CHECK.sameFloat("rows " + n, desk.plan(), n);
      CHECK.sameText("the plan", Desks.plan(desk, 1), "0,0,-1,-1");
    }
  }

  /** The plan of table 0's rows under one condition, the cost before it. */
  private static String planOf(QueryDesk desk, int operator, int number) {
    Desks.ask(desk, 0);
    desk.where(0, 0, operator, number);
    return desk.plan() + ": " + Desks.plan(desk, 1);
  }

  private static void hashWayOfACondition() {
    QueryDesk desk = Desks.of(Desks.turns(12, 4), Desks.turns(12, 12));
    desk.index(0, 1, 0);
    CHECK.sameText("= with an index of another column", planOf(desk, 0, 1), "12.0: 0,0,-1,-1");
    desk.index(0, 0, 0);
    CHECK.sameText("=", planOf(desk, 0, 1), "4.0: 0,1,0,-1");
    CHECK.sameText("<", planOf(desk, 1, 1), "12.0: 0,0,-1,-1");
    CHECK.sameText(">", planOf(desk, 2, 2), "12.0: 0,0,-1,-1");
    CHECK.sameText("not equal", planOf(desk, 3, 1), "12.0: 0,0,-1,-1");
  }

  private static void orderedWayOfACondition() {
    QueryDesk desk = Desks.of(Desks.turns(12, 4), Desks.turns(12, 12));
    desk.index(0, 1, 1);
    CHECK.sameText("= with an index of another column", planOf(desk, 0, 1), "12.0: 0,0,-1,-1");
    desk.index(0, 0, 1);
    CHECK.sameText("=", planOf(desk, 0, 1), "5.0: 0,2,0,-1");
    CHECK.sameText("<", planOf(desk, 1, 1), "5.0: 0,2,0,-1");
    CHECK.sameText(">", planOf(desk, 2, 2), "5.0: 0,2,0,-1");
    CHECK.sameText("not equal", planOf(desk, 3, 1), "12.0: 0,0,-1,-1");
    CHECK.sameText("< of all rows", planOf(desk, 1, 4), "12.0: 0,0,-1,-1");
  }

  private static void waysOfJoinsWithSourcesBefore() {
    for (int kind = 0; kind < 2; kind++) {
      QueryDesk desk = Desks.of(Desks.turns(3, 3));
      Desks.fill(desk, 1, Desks.turns(12, 4));
      desk.index(0, 0, kind);
      desk.index(1, 0, kind);
      Desks.ask(desk, 0, 1);
      desk.join(0, 0, 1, 0);
      CHECK.sameFloat("the later source", desk.plan(), 3f + 3f * (1f + kind + 3f));
      CHECK.sameText("the first has no way by it", Desks.plan(desk, 2), "0,0,-1,-1 1," + (1 + kind) + ",-1,0");
      Desks.fill(desk, 2, Desks.turns(6, 6));
      desk.index(2, 0, kind);
      Desks.ask(desk, 0, 2, 1);
      desk.join(2, 0, 0, 0);
      CHECK.sameFloat("three sources", desk.plan(), 3f + 3f * (4f + kind) + 9f * 6f);
      CHECK.sameText("nor has one that no join ties", Desks.plan(desk, 3),
          "0,0,-1,-1 2," + (1 + kind) + ",-1,0 1,0,-1,-1");
    }
  }

  private static void fewestRows() {
    QueryDesk desk = Desks.of(Desks.turns(24, 2), Desks.turns(24, 12), Desks.turns(24, 4), Desks.turns(24, 24));
    for (int column = 0; column < 4; column++) {
      desk.index(0, column, 0);
    }
    Desks.ask(desk, 0);
    for (int column = 0; column < 3; column++) {
      desk.where(0, column, 0, 1);
    }
    CHECK.sameFloat("the middle one of three", desk.plan(), 3f);
    CHECK.sameText("its plan", Desks.plan(desk, 1), "0,1,1,-1");
    Desks.fill(desk, 1, new int[] {1});
    Desks.ask(desk, 1, 0);
    desk.where(1, 1, 0, 1);
    desk.join(0, 0, 1, 2);
    desk.join(0, 0, 1, 3);
    CHECK.sameFloat("a join with fewer rows", desk.plan(), 1f + 2f);
    CHECK.sameText("its plan", Desks.plan(desk, 2), "0,0,-1,-1 1,1,-1,1");
  }

  private static void scanBeforeEqualWays() {
    QueryDesk desk = Desks.of(Desks.turns(2, 2));
    desk.index(0, 0, 0);
    CHECK.sameText("HASH, 1 + 1 of 2 rows", planOf(desk, 0, 1), "2.0: 0,0,-1,-1");
    desk = Desks.of(Desks.turns(3, 3));
    desk.index(0, 0, 1);
    CHECK.sameText("ORDERED, 2 + 1 of 3 rows", planOf(desk, 0, 1), "3.0: 0,0,-1,-1");
    desk.index(0, 0, 0);
    CHECK.sameText("HASH, 1 + 1 of 3 rows", planOf(desk, 0, 1), "2.0: 0,1,0,-1");
  }

  private static void hashBeforeOrdered() {
    QueryDesk desk = Desks.of(Desks.turns(9, 9), Desks.turns(9, 3));
    desk.index(0, 0, 1);
    desk.index(0, 0, 0);
    CHECK.sameText("both of a condition", planOf(desk, 0, 1), "2.0: 0,1,0,-1");
    Desks.fill(desk, 1, new int[] {1});
    Desks.ask(desk, 1, 0);
    desk.join(0, 0, 1, 0);
    CHECK.sameFloat("both of a join", desk.plan(), 1f + 2f);
    CHECK.sameText("its plan", Desks.plan(desk, 2), "0,0,-1,-1 1,1,-1,0");
  }

  private static void firstOfEqualConditions() {
    QueryDesk desk = Desks.of(Desks.turns(8, 8), Desks.turns(8, 4));
    desk.index(0, 0, 1);
    desk.index(0, 1, 0);
    for (int first = 0; first < 2; first++) {
      Desks.ask(desk, 0);
      desk.where(0, first, 0, 1);
      desk.where(0, 1 - first, 0, 1);
      CHECK.sameFloat("2 + 1 and 1 + 2", desk.plan(), 3f);
      CHECK.sameText("the plan", Desks.plan(desk, 1), first == 0 ? "0,2,0,-1" : "0,1,0,-1");
    }
  }

  private static void conditionBeforeEqualJoin() {
    QueryDesk desk = Desks.of(Desks.turns(8, 8), Desks.turns(8, 8));
    Desks.fill(desk, 1, new int[] {1});
    desk.index(0, 0, 0);
    desk.index(0, 1, 0);
    Desks.ask(desk, 1, 0);
    desk.join(0, 0, 1, 0);
    desk.where(0, 0, 2, -9);
    desk.where(1, 1, 0, 1);
    CHECK.sameFloat("twice 1 + 1", desk.plan(), 1f + 2f);
    CHECK.sameText("the plan", Desks.plan(desk, 2), "0,0,-1,-1 1,1,1,-1");
  }

  private static void firstOfEqualJoins() {
    QueryDesk desk = Desks.of(Desks.turns(8, 8), Desks.turns(8, 4));
    Desks.fill(desk, 1, new int[] {1});
    desk.index(0, 0, 1);
    desk.index(0, 1, 0);
    for (int first = 0; first < 2; first++) {
      Desks.ask(desk, 1, 0);
      desk.join(0, 0, 1, first);
      desk.join(1, 1 - first, 0, 0);
      CHECK.sameFloat("2 + 1 and 1 + 2", desk.plan(), 1f + 3f);
      CHECK.sameText("the plan", Desks.plan(desk, 2), first == 0 ? "0,0,-1,-1 1,2,-1,0" : "0,0,-1,-1 1,1,-1,0");
    }
  }

  private static String orderOf(int... sizes) {
    QueryDesk desk = new QueryDesk();
    int[] tables = new int[sizes.length];
    for (int table = 0; table < sizes.length; table++) {
      Desks.fill(desk, table, Desks.turns(sizes[table], 24));
      tables[table] = table;
    }
    Desks.ask(desk, tables);
    StringBuilder text = new StringBuilder();
    text.append(desk.plan()).append(':');
    for (int k = 0; k < sizes.length; k++) {
      text.append(' ').append(desk.explain(k, 0));
    }
    return text.toString();
  }

  private static void leastCostOfThree() {
    CHECK.sameText("2 3 4", orderOf(2, 3, 4), "32.0: 0 1 2");
    CHECK.sameText("2 4 3", orderOf(2, 4, 3), "32.0: 0 2 1");
    CHECK.sameText("3 2 4", orderOf(3, 2, 4), "32.0: 1 0 2");
    CHECK.sameText("4 2 3", orderOf(4, 2, 3), "32.0: 1 2 0");
    CHECK.sameText("3 4 2", orderOf(3, 4, 2), "32.0: 2 0 1");
    CHECK.sameText("4 3 2", orderOf(4, 3, 2), "32.0: 2 1 0");
    CHECK.sameText("full tables", orderOf(24, 24, 24), "14424.0: 0 1 2");
  }

  private static void firstOfEqualOrdersOfThree() {
    CHECK.sameText("all alike", orderOf(2, 2, 2), "14.0: 0 1 2");
    CHECK.sameText("2 2 3", orderOf(2, 2, 3), "18.0: 0 1 2");
    CHECK.sameText("2 3 2", orderOf(2, 3, 2), "18.0: 0 2 1");
    CHECK.sameText("3 2 2", orderOf(3, 2, 2), "18.0: 1 2 0");
    CHECK.sameText("2 3 3", orderOf(2, 3, 3), "26.0: 0 1 2");
    CHECK.sameText("3 2 3", orderOf(3, 2, 3), "26.0: 1 0 2");
    CHECK.sameText("3 3 2", orderOf(3, 3, 2), "26.0: 2 0 1");
    CHECK.sameText("no rows at all", orderOf(0, 0, 0), "0.0: 0 1 2");
    CHECK.sameText("0 2 3", orderOf(0, 2, 3), "0.0: 0 1 2");
    CHECK.sameText("3 0 2", orderOf(3, 0, 2), "0.0: 1 0 2");
    CHECK.sameText("2 3 0", orderOf(2, 3, 0), "0.0: 2 0 1");
  }

  private static void firstOfEqualOrdersOfTwo() {
    CHECK.sameText("alike", orderOf(3, 3), "12.0: 0 1");
    CHECK.sameText("the second smaller", orderOf(4, 3), "15.0: 1 0");
    CHECK.sameText("the first smaller", orderOf(3, 4), "15.0: 0 1");
    CHECK.sameText("no rows", orderOf(0, 0), "0.0: 0 1");
    CHECK.sameText("one source", orderOf(7), "7.0: 0");
  }

  private static void explainWithoutPlan() {
    QueryDesk desk = new QueryDesk();
    checkNoPlan(desk);
    Desks.fill(desk, 0, Desks.turns(3, 3));
    Desks.ask(desk, 0);
    checkNoPlan(desk);
    desk.plan();
    CHECK.same("planned", desk.explain(0, 0), 0);
    desk.ask();
    checkNoPlan(desk);
    Desks.ask(desk, 0);
    desk.plan();
    desk.create(1, 1);
    checkNoPlan(desk);
  }

  private static void checkNoPlan(QueryDesk desk) {
    for (int k = -1; k <= 3; k++) {
      for (int what = -1; what <= 4; what++) {
        int source = k;
        int told = what;
        CHECK.fails(source + ", " + told, BOUNDS, () -> desk.explain(source, told));
      }
    }
  }

  private static void explainOfNoSource() {
    QueryDesk desk = Desks.of(Desks.turns(3, 3));
    for (int sources = 3; sources >= 1; sources--) {
      Desks.ask(desk, new int[sources]);
      desk.plan();
      for (int what = 0; what < 4; what++) {
        int told = what;
        int[] outside = {-1, sources, 3, LEAST, GREATEST};
        for (int k : outside) {
          CHECK.fails(k + " of " + sources, BOUNDS, () -> desk.explain(k, told));
        }
      }
      CHECK.same("the last one", desk.explain(sources - 1, 0), sources - 1);
    }
  }

  private static void explainOfNoWhat() {
    QueryDesk desk = Desks.of(Desks.turns(3, 3));
    Desks.ask(desk, 0, 0, 0);
    desk.plan();
    int[] outside = {-1, 4, 5, LEAST, GREATEST};
    for (int what : outside) {
      for (int k = 0; k < 3; k++) {
        int source = k;
        CHECK.fails("what " + what, BOUNDS, () -> desk.explain(source, what));
      }
    }
    CHECK.same("the last what", desk.explain(2, 3), -1);
  }

  private static void explainWithout() {
    QueryDesk desk = Desks.of(Desks.turns(9, 9));
    Desks.fill(desk, 1, new int[] {1, 2});
    desk.index(0, 0, 0);
    Desks.ask(desk, 0);
    CHECK.sameText("without either", explained(desk), "0,0,-1,-1");
    Desks.ask(desk, 0);
    for (int i = 0; i < 3; i++) {
      desk.where(0, 0, 3, i);
    }
    desk.where(0, 0, 0, 5);
    CHECK.sameText("the last condition", explained(desk), "0,1,3,-1");
    Desks.ask(desk, 0, 1);
    desk.where(1, 0, 3, 7);
    desk.where(0, 0, 3, 7);
    desk.join(1, 0, 0, 0);
    desk.plan();
    CHECK.sameText("a join", Desks.plan(desk, 2), "1,0,-1,-1 0,1,-1,0");
  }

  private static String explained(QueryDesk desk) {
    desk.plan();
    return Desks.plan(desk, 1);
  }
}
