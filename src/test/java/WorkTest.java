/** Promises 18 to 20: run, look and answer. */
public final class WorkTest {
  private static final Check CHECK = new Check("WorkTest");

  public static void main(String[] args) {
    runRefuses();
    stepsAreCounted();
    lastStepAnswers();
    nothingToRead();
    scanWay();
    hashWay();
    orderedWay();
    joinWays();
    rowsAreTestedBeforeTheNextSource();
    limitEnds();
    orderEndsAtSixtyFour();
    look();
    answer();
    CHECK.end();
  }

  private static QueryDesk tableOf(int... values) {
    QueryDesk desk = new QueryDesk();
    desk.create(0, 2);
    for (int i = 0; i < values.length; i++) {
      desk.insert(0, values[i], i, 0, 0);
    }
    return desk;
  }

  private static void askFor(QueryDesk desk, int sources) {
    desk.ask();
    for (int i = 0; i < sources; i++) {
      desk.from(0);
    }
    for (int i = 0; i < sources; i++) {
      desk.select(i, 1);
    }
  }

  private static void runRefuses() {
    QueryDesk desk = tableOf(5, 6, 7);
    CHECK.same("18: no question", desk.run(1), -1);
    askFor(desk, 1);
    CHECK.same("18: not planned", desk.run(1), -1);
    desk.plan();
    int[] wrongs = {0, 201, -1, Integer.MIN_VALUE, Integer.MAX_VALUE};
    for (int wrong : wrongs) {
      CHECK.same("18: n " + wrong, desk.run(wrong), -1);
    }
    CHECK.same("18: refused makes no step", desk.look(1), 0);
    CHECK.same("18: 200", desk.run(200), 3);
    CHECK.same("18: answered", desk.run(1), -1);
    CHECK.same("18: steps stay", desk.look(1), 3);
  }

  private static void stepsAreCounted() {
    QueryDesk desk = tableOf(new int[24]);
    askFor(desk, 2);
    desk.where(0, 1, 2, 9);
    desk.where(1, 1, 1, 10);
    desk.where(1, 1, 2, 100);
    desk.plan();
    CHECK.same("18: first source", desk.explain(0, 0), 1);
    CHECK.same("18: 24 rows", desk.run(200), 24);
    askFor(desk, 3);
    desk.where(0, 1, 0, 99);
    desk.where(1, 1, 2, -9);
    desk.order(0, false);
    desk.plan();
    CHECK.same("18: order", desk.explain(0, 0), 0);
    CHECK.same("18: no row passes", desk.run(200), 24);
    askFor(desk, 2);
    desk.where(1, 1, 2, 22);
    desk.where(1, 1, 3, 77);
    desk.plan();
    CHECK.same("18: source 1 first", desk.explain(0, 0), 1);
    CHECK.same("18: 24 and one row times 24", desk.run(200), 48);
    CHECK.same("18: answers", desk.look(2), 24);
    askFor(desk, 3);
    desk.where(2, 1, 0, 0);
    desk.where(1, 1, 0, 0);
    desk.join(0, 1, 1, 1);
    desk.join(1, 1, 2, 1);
    desk.order(0, false);
    desk.plan();
    int steps = 0;
    for (int i = 0; i < 10; i++) {
      CHECK.same("18: seven steps", desk.run(7), 7);
      steps += 7;
      CHECK.same("19: steps made", desk.look(1), steps);
      CHECK.same("19: under way", desk.look(0), 1);
    }
    CHECK.same("18: the rest of 72", desk.run(7), 2);
    CHECK.same("19: answered", desk.look(0), 2);
  }

  private static void lastStepAnswers() {
    QueryDesk desk = tableOf(5, 6, 7);
    askFor(desk, 1);
    desk.plan();
    CHECK.same("18: two", desk.run(2), 2);
    CHECK.same("19: under way", desk.look(0), 1);
    CHECK.same("18: the last", desk.run(1), 1);
    CHECK.same("19: answered at once", desk.look(0), 2);
    askFor(desk, 2);
    desk.where(0, 0, 0, 5);
    desk.where(1, 0, 0, 6);
    desk.plan();
    CHECK.same("18: rows that do not pass count", desk.run(5), 5);
    CHECK.same("19: under way", desk.look(0), 1);
    CHECK.same("18: last of all", desk.run(1), 1);
    CHECK.same("19: answered", desk.look(0), 2);
    CHECK.sameText("20: first", Desks.output(desk, 0), "0");
    CHECK.sameText("20: second", Desks.output(desk, 1), "1");
    desk.index(0, 0, 0);
    desk.insert(0, 8, 3, 0, 0);
    desk.insert(0, 9, 4, 0, 0);
    askFor(desk, 2);
    desk.join(0, 1, 1, 0);
    desk.plan();
    CHECK.same("18: HASH ways that lead nowhere end it", desk.run(5), 5);
    CHECK.same("19: answered", desk.look(0), 2);
    CHECK.same("19: no answers", desk.look(2), 0);
  }

  private static void nothingToRead() {
    QueryDesk desk = tableOf();
    askFor(desk, 1);
    desk.plan();
    CHECK.same("19: under way until run", desk.look(0), 1);
    CHECK.same("18: refused", desk.run(0), -1);
    CHECK.same("19: still", desk.look(0), 1);
    CHECK.same("18: no rows", desk.run(200), 0);
    CHECK.same("19: answered", desk.look(0), 2);
    CHECK.same("19: none", desk.look(2), 0);
    CHECK.same("18: not again", desk.run(1), -1);
    QueryDesk other = tableOf(1, 2, 3, 4, 5);
    for (int kind = 0; kind < 2; kind++) {
      other.index(0, 0, kind);
      askFor(other, 1);
      other.where(0, 0, 0, 9);
      other.plan();
      CHECK.same("18: a way", other.explain(0, 1), kind + 1);
      CHECK.same("18: no row on the way", other.run(1), 0);
      CHECK.same("19: answered", other.look(0), 2);
      other.drop(0, 0, kind);
    }
  }

  private static void scanWay() {
    QueryDesk desk = tableOf(9, 3, 7, 1);
    desk.delete(0, 1);
    desk.insert(0, 2, 8, 0, 0);
    askFor(desk, 1);
    desk.plan();
    desk.run(200);
    CHECK.sameText("18: by their numbers", Desks.output(desk, 0), "0 2 3 8");
  }

  private static void hashWay() {
    QueryDesk desk = tableOf(4, 5, 4, 6, 7, 4, 8);
    desk.index(0, 0, 0);
    desk.update(0, 3, 0, 4);
    askFor(desk, 1);
    desk.where(0, 0, 0, 4);
    desk.where(0, 1, 2, 0);
    desk.plan();
    CHECK.same("17: HASH", desk.explain(0, 1), 1);
    CHECK.same("18: the rows with the value", desk.run(200), 4);
    CHECK.sameText("18: by their numbers", Desks.output(desk, 0), "2 3 5");
  }

  private static void orderedWay() {
    QueryDesk desk = tableOf(4, Integer.MIN_VALUE, 4, 6, -7, 4, 800, -7, 3, Integer.MAX_VALUE);
    desk.index(0, 0, 1);
    askFor(desk, 1);
    desk.where(0, 0, 1, 6);
    desk.plan();
    CHECK.same("17: ORDERED", desk.explain(0, 1), 2);
    CHECK.same("18: rows below", desk.run(200), 7);
    CHECK.sameText("18: by value, then number", Desks.output(desk, 0), "1 4 7 8 0 2 5");
    askFor(desk, 1);
    desk.where(0, 0, 2, 3);
    desk.limit(4);
    desk.plan();
    CHECK.same("17: ORDERED", desk.explain(0, 1), 2);
    CHECK.same("18: rows above", desk.run(200), 4);
    CHECK.sameText("18: rising also for >", Desks.output(desk, 0), "0 2 5 3");
    askFor(desk, 1);
    desk.where(0, 0, 0, 4);
    desk.plan();
    CHECK.same("17: ORDERED", desk.explain(0, 1), 2);
    CHECK.same("18: rows with =", desk.run(200), 3);
    CHECK.sameText("18: by number", Desks.output(desk, 0), "0 2 5");
  }

  private static void joinWays() {
    for (int kind = 0; kind < 2; kind++) {
      QueryDesk desk = new QueryDesk();
      desk.create(0, 1);
      desk.create(1, 2);
      int[] values = {2, 9, 1};
      for (int value : values) {
        desk.insert(0, value, 0, 0, 0);
      }
      for (int i = 0; i < 12; i++) {
        desk.insert(1, i % 4, i, 0, 0);
      }
      desk.index(1, 0, kind);
      desk.from(1);
      desk.from(0);
      desk.join(0, 0, 1, 0);
      desk.select(0, 1);
      desk.plan();
      CHECK.same("17: first", desk.explain(0, 0), 1);
      CHECK.same("17: join's way", desk.explain(1, 1), kind + 1);
      CHECK.same("18: three rows and twice three", desk.run(200), 9);
      CHECK.sameText("18: the value of the row before", Desks.output(desk, 0), "2 6 10 1 5 9");
    }
  }

  private static void rowsAreTestedBeforeTheNextSource() {
    QueryDesk desk = tableOf(1, 2, 3, 4);
    askFor(desk, 3);
    desk.join(0, 0, 1, 0);
    desk.join(0, 0, 2, 0);
    desk.plan();
    CHECK.sameText("17: in turn", desk.explain(0, 0) + "" + desk.explain(1, 0) + desk.explain(2, 0), "012");
    CHECK.same("18: 4 + 16 + 16", desk.run(200), 36);
    CHECK.sameText("20: outputs", Desks.output(desk, 2), "0 1 2 3");
    askFor(desk, 3);
    desk.join(2, 0, 0, 0);
    desk.where(1, 0, 3, 2);
    desk.plan();
    CHECK.sameText("17: joined ones first", desk.explain(0, 0) + "" + desk.explain(1, 0) + desk.explain(2, 0), "021");
    CHECK.same("18: 4 + 16 + 16", desk.run(200), 36);
    CHECK.sameText("20: outputs", Desks.output(desk, 1), "0 2 3 0 2 3 0 2 3 0 2 3");
  }

  private static void limitEnds() {
    QueryDesk desk = tableOf(1, 2, 1, 2, 1, 2);
    askFor(desk, 1);
    desk.where(0, 0, 0, 2);
    desk.limit(2);
    desk.plan();
    CHECK.same("18: three", desk.run(3), 3);
    CHECK.same("19: one found", desk.look(2), 1);
    CHECK.same("18: the answers are enough", desk.run(3), 1);
    CHECK.same("19: answered", desk.look(0), 2);
    CHECK.sameText("20: two answers", Desks.output(desk, 0), "1 3");
  }

  private static void orderEndsAtSixtyFour() {
    QueryDesk desk = tableOf(new int[24]);
    askFor(desk, 2);
    desk.order(1, true);
    desk.limit(5);
    desk.plan();
    CHECK.same("18: 64 answers: 3 + 64 steps", desk.run(200), 67);
    CHECK.same("19: those that are given", desk.look(2), 5);
    CHECK.sameText("20: ordered, then cut", Desks.output(desk, 1), "23 23 22 22 21");
    CHECK.sameText("20: equal ones as found", Desks.output(desk, 0), "0 1 0 1 0");
    askFor(desk, 2);
    desk.order(1, true);
    desk.limit(5);
    desk.plan();
    desk.run(66);
    CHECK.same("19: found so far", desk.look(2), 63);
    CHECK.same("19: under way", desk.look(0), 1);
    CHECK.same("18: the 64th", desk.run(66), 1);
    CHECK.same("19: cut", desk.look(2), 5);
  }

  private static void look() {
    QueryDesk desk = tableOf(1, 2, 3);
    desk.create(2, 1);
    CHECK.same("19: rows of 0", desk.look(3), 3);
    CHECK.same("19: no table 1", desk.look(4), -1);
    CHECK.same("19: rows of 2", desk.look(5), 0);
    int[] others = {-1, 6, 7, Integer.MIN_VALUE, Integer.MAX_VALUE};
    for (int what : others) {
      CHECK.same("19: what " + what, desk.look(what), -1);
    }
    askFor(desk, 1);
    CHECK.same("19: not planned", desk.look(0), 0);
    CHECK.same("19: no steps", desk.look(1), 0);
    CHECK.same("19: no answers", desk.look(2), 0);
    desk.plan();
    CHECK.same("19: under way", desk.look(0), 1);
    desk.run(2);
    CHECK.same("19: steps", desk.look(1), 2);
    CHECK.same("19: answers so far", desk.look(2), 2);
    desk.run(2);
    CHECK.same("19: answered", desk.look(0), 2);
    CHECK.same("19: all steps", desk.look(1), 3);
    CHECK.same("19: all answers", desk.look(2), 3);
    askFor(desk, 1);
    desk.plan();
    desk.run(1);
    desk.delete(0, 2);
    CHECK.same("19: ended", desk.look(0), 3);
    CHECK.same("19: steps of an ended one", desk.look(1), 1);
    CHECK.same("19: rows", desk.look(3), 2);
  }

  private static void answer() {
    QueryDesk desk = tableOf(1, 2, 3);
    CHECK.fails("20: no question", IllegalStateException.class, () -> desk.answer(0, 0));
    askFor(desk, 1);
    desk.select(0, 0);
    CHECK.fails("20: not planned", IllegalStateException.class, () -> desk.answer(0, 0));
    desk.plan();
    desk.run(2);
    CHECK.fails("20: under way", IllegalStateException.class, () -> desk.answer(0, 0));
    CHECK.fails("20: under way, wrong number", IllegalStateException.class, () -> desk.answer(-1, 9));
    desk.run(2);
    CHECK.same("20: first", desk.answer(0, 0), 0);
    CHECK.same("20: last", desk.answer(2, 1), 3);
    int[] wrongNumbers = {-1, 3, 64, Integer.MIN_VALUE, Integer.MAX_VALUE};
    for (int number : wrongNumbers) {
      CHECK.fails("20: number " + number, IndexOutOfBoundsException.class, () -> desk.answer(number, 0));
    }
    int[] wrongOutputs = {-1, 2, 4, Integer.MIN_VALUE, Integer.MAX_VALUE};
    for (int k : wrongOutputs) {
      CHECK.fails("20: output " + k, IndexOutOfBoundsException.class, () -> desk.answer(0, k));
    }
  }
}
