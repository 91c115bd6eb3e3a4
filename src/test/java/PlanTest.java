/** Promises 16 and 17: plan and explain. */
public final class PlanTest {
  private static final Check CHECK = new Check("PlanTest");

  public static void main(String[] args) {
    planRefuses();
    scan();
    sharesOfConditions();
    sharesStayBetweenNothingAndAll();
    differencesAreLong();
    waysOfConditions();
    waysOfJoins();
    firstOfEqualWays();
    joinShareIsTheLaterOnes();
    ordersOfThree();
    firstOfEqualOrders();
    ordersOfTwo();
    emptyTables();
    planSeesTheRowsOfItsTime();
    explain();
    CHECK.end();
  }

  private static void planRefuses() {
    QueryDesk desk = new QueryDesk();
    desk.create(0, 1);
    desk.insert(0, 1, 0, 0, 0);
    CHECK.fails("16: no sources", IllegalStateException.class, desk::plan);
    desk.from(0);
    CHECK.fails("16: no outputs", IllegalStateException.class, desk::plan);
    CHECK.same("16: refused: not planned", desk.look(0), 0);
    CHECK.same("16: refused: goes on", desk.select(0, 0), 0);
    CHECK.sameFloat("16: planned", desk.plan(), 1f);
    CHECK.same("16: under way", desk.look(0), 1);
    CHECK.same("16: no step", desk.look(1), 0);
    CHECK.same("16: no answer", desk.look(2), 0);
    CHECK.fails("16: again", IllegalStateException.class, desk::plan);
    CHECK.same("16: still under way", desk.look(0), 1);
    desk.run(1);
    CHECK.fails("16: answered", IllegalStateException.class, desk::plan);
    CHECK.same("16: still answered", desk.look(0), 2);
  }

  private static void scan() {
    QueryDesk desk = new QueryDesk();
    Desks.fill(desk, 0, Desks.turns(7, 7));
    desk.from(0);
    desk.select(0, 0);
    desk.where(0, 0, 0, 1);
    CHECK.sameFloat("16: scan", desk.plan(), 7f);
    CHECK.sameText("17: scan", Desks.plan(desk, 1), "0,0,-1,-1");
  }

  /** The cost of source 0 with a condition before source 1, with 20 rows, shows the SHARE. */
  private static float costBehind(int operator, int number) {
    return costBehind(operator, number, 3, 3, 5, 9, 9, 9, 12);
  }

  private static float costBehind(int operator, int number, int... values) {
    QueryDesk desk = new QueryDesk();
    Desks.fill(desk, 0, values);
    Desks.fill(desk, 1, Desks.turns(20, 20));
    desk.from(0);
    desk.from(1);
    desk.where(0, 0, operator, number);
    desk.select(0, 0);
    float cost = desk.plan();
    CHECK.same("16: first source", desk.explain(0, 0), 0);
    return cost;
  }

  private static void sharesOfConditions() {
    CHECK.sameFloat("16: share of =", costBehind(0, 3), 7f + 7f * (1f / 4f) * 20f);
    CHECK.sameFloat("16: = with a value that is not there", costBehind(0, 4), 7f + 7f * (1f / 4f) * 20f);
    CHECK.sameFloat("16: share of not equal", costBehind(3, 3), 7f + 7f * (1f - 1f / 4f) * 20f);
    CHECK.sameFloat("16: share of <", costBehind(1, 7), 7f + 7f * (4f / 10f) * 20f);
    CHECK.sameFloat("16: share of >", costBehind(2, 7), 7f + 7f * (5f / 10f) * 20f);
    CHECK.sameFloat("16: GREATEST comes first", costBehind(2, 6, 9, 4, 5), 3f + 3f * (3f / 6f) * 20f);
    CHECK.sameFloat("16: LEAST comes last", costBehind(1, 6, 9, 5, 4), 3f + 3f * (2f / 6f) * 20f);
    CHECK.sameFloat("16: one row, =", costBehind(0, 6, 9), 1f + 20f);
    CHECK.sameFloat("16: one row, not equal", costBehind(3, 6, 9), 1f);
    CHECK.sameFloat("16: one row, <", costBehind(1, 10, 9), 1f + 20f);
    CHECK.sameFloat("16: one row, >", costBehind(2, 8, 9), 1f + 20f);
  }

  private static void sharesStayBetweenNothingAndAll() {
    CHECK.sameFloat("16: < LEAST", costBehind(1, 3), 7f);
    CHECK.sameFloat("16: < far below", costBehind(1, Integer.MIN_VALUE), 7f);
    CHECK.sameFloat("16: < GREATEST", costBehind(1, 12), 7f + 7f * (9f / 10f) * 20f);
    CHECK.sameFloat("16: < above all", costBehind(1, 13), 7f + 7f * 20f);
    CHECK.sameFloat("16: < a little more", costBehind(1, 15), 7f + 7f * 20f);
    CHECK.sameFloat("16: > a little less", costBehind(2, 0), 7f + 7f * 20f);
    CHECK.sameFloat("16: < far above", costBehind(1, Integer.MAX_VALUE), 7f + 7f * 20f);
    CHECK.sameFloat("16: > GREATEST", costBehind(2, 12), 7f);
    CHECK.sameFloat("16: > far above", costBehind(2, Integer.MAX_VALUE), 7f);
    CHECK.sameFloat("16: > LEAST", costBehind(2, 3), 7f + 7f * (9f / 10f) * 20f);
    CHECK.sameFloat("16: > far below", costBehind(2, Integer.MIN_VALUE), 7f + 7f * 20f);
  }

  private static void differencesAreLong() {
    QueryDesk desk = new QueryDesk();
    Desks.fill(desk, 0, new int[] {Integer.MIN_VALUE, Integer.MAX_VALUE, 0, 1, 2, 3, 4, 5});
    desk.index(0, 0, 1);
    desk.from(0);
    desk.where(0, 0, 1, 0);
    desk.select(0, 0);
    CHECK.sameFloat("16: < over all ints", desk.plan(), 2f + 8f * (2147483648f / 4294967296f));
    desk.ask();
    desk.from(0);
    desk.where(0, 0, 2, 1 << 30);
    desk.select(0, 0);
    CHECK.sameFloat("16: > over all ints", desk.plan(), 2f + 8f * (1073741823f / 4294967296f));
  }

  private static float oneSource(QueryDesk desk, int column, int operator, int number) {
    desk.ask();
    desk.from(0);
    desk.where(0, column, operator, number);
    desk.select(0, 0);
    return desk.plan();
  }

  private static void waysOfConditions() {
    QueryDesk desk = new QueryDesk();
    Desks.fill(desk, 0, Desks.turns(12, 3), Desks.turns(12, 12));
    CHECK.sameFloat("16: no index", oneSource(desk, 0, 0, 1), 12f);
    desk.index(0, 0, 1);
    CHECK.sameFloat("16: = by ORDERED", oneSource(desk, 0, 0, 1), 2f + 12f * (1f / 3f));
    CHECK.sameText("17: = by ORDERED", Desks.plan(desk, 1), "0,2,0,-1");
    desk.index(0, 0, 0);
    CHECK.sameFloat("16: = by HASH", oneSource(desk, 0, 0, 1), 1f + 12f * (1f / 3f));
    CHECK.sameText("17: = by HASH", Desks.plan(desk, 1), "0,1,0,-1");
    CHECK.sameFloat("16: < by ORDERED", oneSource(desk, 0, 1, 1), 2f + 12f * (1f / 3f));
    CHECK.sameText("17: < by ORDERED", Desks.plan(desk, 1), "0,2,0,-1");
    CHECK.sameFloat("16: > by ORDERED", oneSource(desk, 0, 2, 1), 2f + 12f * (1f / 3f));
    CHECK.sameText("17: > by ORDERED", Desks.plan(desk, 1), "0,2,0,-1");
    CHECK.sameFloat("16: not equal by SCAN", oneSource(desk, 0, 3, 1), 12f);
    CHECK.sameText("17: not equal by SCAN", Desks.plan(desk, 1), "0,0,-1,-1");
    CHECK.sameFloat("16: an index of another column", oneSource(desk, 1, 0, 1), 12f);
    desk.drop(0, 0, 1);
    CHECK.sameFloat("16: < has no HASH way", oneSource(desk, 0, 1, 1), 12f);
    CHECK.sameFloat("16: > has no HASH way", oneSource(desk, 0, 2, 1), 12f);
    desk.drop(0, 0, 0);
    CHECK.sameFloat("16: dropped", oneSource(desk, 0, 0, 1), 12f);
    desk.index(0, 1, 0);
    desk.index(0, 0, 0);
    desk.ask();
    desk.from(0);
    desk.where(0, 0, 0, 1);
    desk.where(0, 1, 0, 7);
    desk.select(0, 0);
    CHECK.sameFloat("16: the fewer rows", desk.plan(), 1f + 12f * (1f / 12f));
    CHECK.sameText("17: the fewer rows", Desks.plan(desk, 1), "0,1,1,-1");
  }

  private static void waysOfJoins() {
    QueryDesk desk = new QueryDesk();
    Desks.fill(desk, 0, Desks.turns(3, 3));
    Desks.fill(desk, 1, Desks.turns(20, 10), Desks.turns(20, 20));
    desk.index(1, 1, 1);
    desk.from(0);
    desk.from(1);
    desk.join(0, 0, 1, 0);
    desk.join(1, 1, 0, 0);
    desk.select(1, 0);
    CHECK.sameFloat("16: join by ORDERED", desk.plan(), 3f + 3f * (2f + 20f * (1f / 20f)));
    CHECK.sameText("17: join by ORDERED", Desks.plan(desk, 2), "0,0,-1,-1 1,2,-1,1");
    desk.index(1, 1, 0);
    desk.ask();
    desk.from(0);
    desk.from(1);
    desk.join(0, 0, 1, 0);
    desk.join(1, 1, 0, 0);
    desk.select(1, 0);
    CHECK.sameFloat("16: join by HASH", desk.plan(), 3f + 3f * (1f + 20f * (1f / 20f)));
    CHECK.sameText("17: join by HASH", Desks.plan(desk, 2), "0,0,-1,-1 1,1,-1,1");
    desk.index(0, 0, 0);
    desk.index(1, 0, 0);
    desk.ask();
    desk.from(0);
    desk.from(1);
    desk.join(0, 0, 1, 0);
    desk.select(0, 0);
    CHECK.sameFloat("16: a join is a way for the later one alone", desk.plan(), 3f + 3f * (1f + 20f * (1f / 10f)));
    CHECK.sameText("17: a join is a way for the later one alone", Desks.plan(desk, 2), "0,0,-1,-1 1,1,-1,0");
  }

  private static void firstOfEqualWays() {
    QueryDesk desk = new QueryDesk();
    Desks.fill(desk, 0, Desks.turns(2, 2));
    desk.index(0, 0, 0);
    CHECK.sameFloat("16: SCAN and HASH alike", oneSource(desk, 0, 0, 1), 2f);
    CHECK.sameText("17: SCAN and HASH alike", Desks.plan(desk, 1), "0,0,-1,-1");
    Desks.fill(desk, 0, Desks.turns(8, 8), Desks.turns(8, 4));
    desk.index(0, 0, 1);
    desk.index(0, 1, 0);
    for (int first = 0; first < 2; first++) {
      desk.ask();
      desk.from(0);
      desk.where(0, first, 0, 1);
      desk.where(0, 1 - first, 0, 1);
      desk.select(0, 0);
      CHECK.sameFloat("16: two conditions alike", desk.plan(), 3f);
      CHECK.sameText("17: two conditions alike", Desks.plan(desk, 1), first == 0 ? "0,2,0,-1" : "0,1,0,-1");
    }
    Desks.fill(desk, 1, Desks.turns(1, 1));
    Desks.fill(desk, 0, Desks.turns(8, 8), Desks.turns(8, 8));
    desk.index(0, 0, 0);
    desk.index(0, 1, 0);
    desk.from(1);
    desk.from(0);
    desk.join(0, 0, 1, 0);
    desk.where(1, 1, 0, 1);
    desk.select(0, 0);
    CHECK.sameFloat("16: condition and join alike", desk.plan(), 1f + 2f);
    CHECK.sameText("17: condition before join", Desks.plan(desk, 2), "0,0,-1,-1 1,1,0,-1");
    desk.ask();
    desk.from(1);
    desk.from(0);
    desk.join(0, 0, 1, 1);
    desk.join(0, 0, 1, 0);
    desk.select(0, 0);
    desk.plan();
    CHECK.sameText("17: first of two joins", Desks.plan(desk, 2), "0,0,-1,-1 1,1,-1,0");
  }

  private static void joinShareIsTheLaterOnes() {
    QueryDesk desk = new QueryDesk();
    Desks.fill(desk, 0, Desks.turns(2, 1));
    Desks.fill(desk, 1, Desks.turns(10, 5));
    Desks.fill(desk, 2, Desks.turns(20, 20));
    desk.from(0);
    desk.from(1);
    desk.from(2);
    desk.join(1, 0, 0, 0);
    desk.select(0, 0);
    float count = 2f * 10f * (1f / 5f);
    CHECK.sameFloat("16: share of a join", desk.plan(), 2f + 2f * 10f + count * 20f);
    CHECK.sameText("17: share of a join", Desks.plan(desk, 3), "0,0,-1,-1 1,0,-1,-1 2,0,-1,-1");
  }

  private static void ordersOfThree() {
    int[][] sizes = {{2, 3, 4}, {2, 4, 3}, {3, 2, 4}, {4, 2, 3}, {3, 4, 2}, {4, 3, 2}};
    String[] due = {"0 1 2", "0 2 1", "1 0 2", "1 2 0", "2 0 1", "2 1 0"};
    for (int i = 0; i < 6; i++) {
      CHECK.sameText("17: order", orderOf(sizes[i], 2f + 2f * 3f + 2f * 3f * 4f), due[i]);
    }
  }

  private static void firstOfEqualOrders() {
    CHECK.sameText("17: all alike", orderOf(new int[] {2, 2, 2}, 14f), "0 1 2");
    CHECK.sameText("17: 2 2 3", orderOf(new int[] {2, 2, 3}, 18f), "0 1 2");
    CHECK.sameText("17: 2 3 2", orderOf(new int[] {2, 3, 2}, 18f), "0 2 1");
    CHECK.sameText("17: 3 2 2", orderOf(new int[] {3, 2, 2}, 18f), "1 2 0");
    CHECK.sameText("17: 2 3 3", orderOf(new int[] {2, 3, 3}, 26f), "0 1 2");
    CHECK.sameText("17: 3 2 3", orderOf(new int[] {3, 2, 3}, 26f), "1 0 2");
    CHECK.sameText("17: 3 3 2", orderOf(new int[] {3, 3, 2}, 26f), "2 0 1");
  }

  private static String orderOf(int[] sizes, float dueCost) {
    QueryDesk desk = new QueryDesk();
    for (int table = 0; table < 3; table++) {
      Desks.fill(desk, table, Desks.turns(sizes[table], sizes[table]));
    }
    for (int table = 0; table < 3; table++) {
      desk.from(table);
    }
    desk.select(0, 0);
    CHECK.sameFloat("16: cost of an order", desk.plan(), dueCost);
    return desk.explain(0, 0) + " " + desk.explain(1, 0) + " " + desk.explain(2, 0);
  }

  private static void ordersOfTwo() {
    QueryDesk desk = new QueryDesk();
    Desks.fill(desk, 0, Desks.turns(5, 5));
    Desks.fill(desk, 1, Desks.turns(4, 4));
    desk.from(0);
    desk.from(1);
    desk.select(0, 0);
    CHECK.sameFloat("16: smaller first", desk.plan(), 4f + 4f * 5f);
    CHECK.sameText("17: smaller first", Desks.plan(desk, 2), "1,0,-1,-1 0,0,-1,-1");
    desk.ask();
    desk.from(0);
    desk.from(0);
    desk.select(0, 0);
    CHECK.sameFloat("16: the same table", desk.plan(), 5f + 5f * 5f);
    CHECK.sameText("17: the same table", Desks.plan(desk, 2), "0,0,-1,-1 1,0,-1,-1");
  }

  private static void emptyTables() {
    QueryDesk desk = new QueryDesk();
    desk.create(0, 1);
    Desks.fill(desk, 1, Desks.turns(4, 4));
    desk.create(0, 1);
    desk.index(0, 0, 0);
    desk.index(0, 0, 1);
    desk.from(1);
    desk.from(0);
    desk.where(1, 0, 0, 1);
    desk.where(1, 0, 1, 1);
    desk.where(1, 0, 3, 1);
    desk.join(0, 0, 1, 0);
    desk.select(0, 0);
    CHECK.sameFloat("16: without rows", desk.plan(), 0f);
    CHECK.sameText("17: without rows", Desks.plan(desk, 2), "1,0,-1,-1 0,0,-1,-1");
  }

  private static void planSeesTheRowsOfItsTime() {
    QueryDesk desk = new QueryDesk();
    Desks.fill(desk, 0, Desks.turns(3, 3));
    desk.from(0);
    desk.select(0, 0);
    desk.where(0, 0, 0, 9);
    desk.insert(0, 9, 0, 0, 0);
    desk.insert(0, 9, 0, 0, 0);
    desk.update(0, 0, 0, 9);
    desk.delete(0, 1);
    desk.index(0, 0, 0);
    CHECK.sameFloat("16: changes before planning count", desk.plan(), 1f + 4f * (1f / 2f));
    CHECK.same("16: under way", desk.look(0), 1);
    CHECK.same("18: three rows with 9", desk.run(200), 3);
  }

  private static void explain() {
    QueryDesk desk = new QueryDesk();
    Desks.fill(desk, 0, Desks.turns(3, 3));
    desk.from(0);
    desk.from(0);
    desk.select(0, 0);
    CHECK.fails("17: not planned", IndexOutOfBoundsException.class, () -> desk.explain(0, 0));
    desk.plan();
    int[] wrongSources = {-1, 2, 3, Integer.MIN_VALUE, Integer.MAX_VALUE};
    for (int k : wrongSources) {
      CHECK.fails("17: source " + k, IndexOutOfBoundsException.class, () -> desk.explain(k, 0));
    }
    int[] wrongWhats = {-1, 4, 5, Integer.MIN_VALUE, Integer.MAX_VALUE};
    for (int what : wrongWhats) {
      CHECK.fails("17: what " + what, IndexOutOfBoundsException.class, () -> desk.explain(0, what));
    }
    CHECK.sameText("17: under way", Desks.plan(desk, 2), "0,0,-1,-1 1,0,-1,-1");
    desk.run(200);
    CHECK.sameText("17: answered", Desks.plan(desk, 2), "0,0,-1,-1 1,0,-1,-1");
  }
}
