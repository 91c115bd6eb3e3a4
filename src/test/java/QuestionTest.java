/** Promises 9 to 15: ask, from, where, join, select, order, limit. */
public final class QuestionTest {
  private static final int[] WRONG = {-1, 3, 4, 5, Integer.MIN_VALUE, Integer.MAX_VALUE};
  private static final Check CHECK = new Check("QuestionTest");

  public static void main(String[] args) {
    ask();
    from();
    where();
    join();
    select();
    order();
    limit();
    nothingIsAddedToAPlannedQuestion();
    CHECK.end();
  }

  /** Table 0: columns 2, rows (i, i % 3), i = 0 .. 5; table 1: one column, rows 0 .. 3. */
  private static QueryDesk twoTables() {
    QueryDesk desk = new QueryDesk();
    desk.create(0, 2);
    desk.create(1, 1);
    for (int i = 0; i < 6; i++) {
      desk.insert(0, i, i % 3, 0, 0);
    }
    for (int i = 0; i < 4; i++) {
      desk.insert(1, i, 0, 0, 0);
    }
    return desk;
  }

  private static void ask() {
    QueryDesk desk = twoTables();
    desk.from(0);
    desk.from(1);
    desk.where(0, 0, 0, 3);
    desk.join(0, 0, 1, 0);
    desk.select(0, 0);
    desk.select(1, 0);
    desk.order(0, true);
    desk.limit(1);
    desk.ask();
    CHECK.same("9: no outputs", desk.order(0, false), false);
    CHECK.same("9: no sources", desk.where(0, 0, 0, 0), false);
    CHECK.same("9: sources begin at 0", desk.from(0), 0);
    CHECK.same("9: outputs begin at 0", desk.select(0, 1), 0);
    CHECK.sameText("9: no condition, join, order or limit is left", Desks.answersOfPlanned(desk, 1), "0 1 2 0 1 2");
    CHECK.same("9: rows stay", desk.look(3), 6);
    desk.ask();
    CHECK.same("9: not planned", desk.look(0), 0);
    CHECK.same("9: no steps", desk.look(1), 0);
    CHECK.same("9: no answers", desk.look(2), 0);
    CHECK.fails("9: no plan", IndexOutOfBoundsException.class, () -> desk.explain(0, 0));
    CHECK.fails("9: no answer", IllegalStateException.class, () -> desk.answer(0, 0));
    desk.from(0);
    desk.select(0, 0);
    desk.plan();
    desk.run(1);
    desk.ask();
    CHECK.same("9: also of one under way", desk.look(0), 0);
    CHECK.same("9: nothing to run", desk.run(1), -1);
  }

  private static void from() {
    QueryDesk desk = twoTables();
    for (int table : WRONG) {
      CHECK.same("10: table " + table, desk.from(table), -1);
    }
    CHECK.same("10: not made", desk.from(2), -1);
    CHECK.same("10: first", desk.from(1), 0);
    CHECK.same("10: same table", desk.from(1), 1);
    CHECK.same("10: third", desk.from(0), 2);
    CHECK.same("10: fourth", desk.from(0), -1);
    CHECK.same("10: columns of source 2", desk.select(2, 1), 0);
    CHECK.same("10: columns of source 1", desk.select(1, 1), -1);
  }

  private static void where() {
    String[] due = {"2 5", "0 1 3 4", "", "0 1 3 4"};
    for (int operator = 0; operator < 4; operator++) {
      QueryDesk desk = twoTables();
      desk.from(0);
      desk.select(0, 0);
      CHECK.same("11: operator " + operator, desk.where(0, 1, operator, 2), true);
      CHECK.sameText("11: answers of " + operator, Desks.answersOfPlanned(desk, 1), due[operator]);
    }
    QueryDesk desk = twoTables();
    CHECK.same("11: no source yet", desk.where(0, 0, 0, 0), false);
    desk.from(0);
    desk.from(1);
    for (int wrong : WRONG) {
      CHECK.same("11: source " + wrong, desk.where(wrong, 0, 0, 0), false);
      CHECK.same("11: column " + wrong, desk.where(0, wrong, 0, 0), false);
      if (wrong != 3) {
        CHECK.same("11: operator " + wrong, desk.where(0, 0, wrong, 0), false);
      }
    }
    CHECK.same("11: source not there", desk.where(2, 0, 0, 0), false);
    CHECK.same("11: column not there", desk.where(1, 1, 0, 0), false);
    CHECK.same("11: first", desk.where(0, 0, 2, 1), true);
    CHECK.same("11: second", desk.where(0, 0, 3, 3), true);
    CHECK.same("11: third", desk.where(1, 0, 2, Integer.MIN_VALUE), true);
    CHECK.same("11: fourth", desk.where(1, 0, 1, 1), true);
    CHECK.same("11: fifth", desk.where(0, 0, 0, 77), false);
    desk.select(0, 0);
    desk.select(1, 0);
    CHECK.sameText("11: all together", Desks.answersOfPlanned(desk, 2), "2,0 4,0 5,0");
  }

  private static void join() {
    QueryDesk desk = twoTables();
    desk.from(0);
    CHECK.same("12: one source", desk.join(0, 0, 1, 0), false);
    desk.from(1);
    for (int wrong : WRONG) {
      CHECK.same("12: source " + wrong, desk.join(wrong, 0, 1, 0), false);
      CHECK.same("12: other " + wrong, desk.join(0, 0, wrong, 0), false);
      CHECK.same("12: column " + wrong, desk.join(0, wrong, 1, 0), false);
      CHECK.same("12: column2 " + wrong, desk.join(0, 0, 1, wrong), false);
    }
    CHECK.same("12: column2 not there", desk.join(0, 1, 1, 1), false);
    CHECK.same("12: column not there", desk.join(1, 1, 0, 1), false);
    CHECK.same("12: with itself", desk.join(0, 0, 0, 1), false);
    CHECK.same("12: first", desk.join(0, 0, 1, 0), true);
    CHECK.same("12: second", desk.join(1, 0, 0, 1), true);
    CHECK.same("12: third, the same", desk.join(0, 0, 1, 0), true);
    CHECK.same("12: fourth", desk.join(0, 0, 1, 0), false);
    desk.select(0, 0);
    desk.select(1, 0);
    CHECK.sameText("12: both joins hold", Desks.answersOfPlanned(desk, 2), "0,0 1,1 2,2");
    desk.ask();
    desk.from(0);
    desk.from(0);
    desk.from(1);
    CHECK.same("12: of one table", desk.join(0, 0, 1, 1), true);
    CHECK.same("12: with the third", desk.join(2, 0, 1, 0), true);
    desk.select(0, 0);
    desk.select(1, 0);
    desk.select(2, 0);
    desk.order(1, false);
    CHECK.sameText("12: three sources", Desks.answersOfPlanned(desk, 3), "0,0,0 1,1,1 2,2,2 0,3,3");
  }

  private static void select() {
    QueryDesk desk = twoTables();
    CHECK.same("13: no source", desk.select(0, 0), -1);
    desk.from(0);
    for (int wrong : WRONG) {
      CHECK.same("13: source " + wrong, desk.select(wrong, 0), -1);
      CHECK.same("13: column " + wrong, desk.select(0, wrong), -1);
    }
    CHECK.same("13: source not there", desk.select(1, 0), -1);
    CHECK.same("13: column not there", desk.select(0, 2), -1);
    CHECK.same("13: first", desk.select(0, 1), 0);
    CHECK.same("13: second", desk.select(0, 0), 1);
    CHECK.same("13: third", desk.select(0, 0), 2);
    CHECK.same("13: fourth", desk.select(0, 1), 3);
    CHECK.same("13: fifth", desk.select(0, 1), -1);
    CHECK.sameText("13: values", Desks.answersOfPlanned(desk, 4), "0,0,0,0 1,1,1,1 2,2,2,2 0,3,3,0 1,4,4,1 2,5,5,2");
  }

  private static void order() {
    QueryDesk desk = twoTables();
    desk.from(0);
    CHECK.same("14: no output", desk.order(0, false), false);
    desk.select(0, 0);
    desk.select(0, 1);
    int[] wrongs = {-1, 2, 3, 4, Integer.MIN_VALUE, Integer.MAX_VALUE};
    for (int wrong : wrongs) {
      CHECK.same("14: output " + wrong, desk.order(wrong, false), false);
    }
    CHECK.same("14: rising", desk.order(1, false), true);
    CHECK.sameText("14: rising, equal ones as found", Desks.answersOfPlanned(desk, 2), "0,0 3,0 1,1 4,1 2,2 5,2");
    desk.ask();
    desk.from(0);
    desk.select(0, 0);
    desk.select(0, 1);
    CHECK.same("14: set", desk.order(0, false), true);
    CHECK.same("14: set again", desk.order(1, true), true);
    CHECK.same("14: refused", desk.order(2, false), false);
    CHECK.sameText("14: falling, equal ones as found", Desks.answersOfPlanned(desk, 2), "2,2 5,2 1,1 4,1 0,0 3,0");
    desk.create(2, 1);
    desk.insert(2, 1, 0, 0, 0);
    desk.insert(2, Integer.MIN_VALUE, 0, 0, 0);
    desk.insert(2, Integer.MAX_VALUE, 0, 0, 0);
    desk.from(2);
    desk.select(0, 0);
    desk.order(0, false);
    CHECK.sameText("14: far apart", Desks.answersOfPlanned(desk, 1), "-2147483648 1 2147483647");
  }

  private static void limit() {
    QueryDesk desk = twoTables();
    int[] wrongs = {0, 65, -1, Integer.MIN_VALUE, Integer.MAX_VALUE};
    for (int wrong : wrongs) {
      CHECK.same("15: limit " + wrong, desk.limit(wrong), false);
    }
    CHECK.same("15: 1", desk.limit(1), true);
    CHECK.same("15: 64", desk.limit(64), true);
    CHECK.same("15: 4", desk.limit(4), true);
    CHECK.same("15: refused", desk.limit(65), false);
    desk.from(0);
    desk.select(0, 0);
    CHECK.sameText("15: four answers", Desks.answersOfPlanned(desk, 1), "0 1 2 3");
    CHECK.same("15: ends when it has them", desk.look(1), 4);
    desk.ask();
    desk.from(0);
    desk.select(0, 0);
    desk.order(0, true);
    desk.limit(2);
    CHECK.sameText("15: cut after ordering", Desks.answersOfPlanned(desk, 1), "5 4");
    CHECK.same("15: reads all", desk.look(1), 6);
    desk.ask();
    desk.from(0);
    desk.from(0);
    desk.from(1);
    desk.select(0, 0);
    Desks.answersOfPlanned(desk, 1);
    CHECK.same("15: 64 at first", desk.look(2), 64);
  }

  private static void nothingIsAddedToAPlannedQuestion() {
    QueryDesk desk = twoTables();
    desk.from(0);
    desk.from(1);
    desk.select(0, 0);
    desk.plan();
    for (int stage = 1; stage <= 3; stage++) {
      CHECK.same("9-15: stage", desk.look(0), stage == 1 ? 1 : stage == 2 ? 3 : 2);
      CHECK.same("10: planned", desk.from(0), -1);
      CHECK.same("11: planned", desk.where(0, 0, 0, 0), false);
      CHECK.same("12: planned", desk.join(0, 0, 1, 0), false);
      CHECK.same("13: planned", desk.select(0, 0), -1);
      CHECK.same("14: planned", desk.order(0, false), false);
      CHECK.same("15: planned", desk.limit(3), false);
      CHECK.fails("16: planned", IllegalStateException.class, desk::plan);
      if (stage == 1) {
        desk.update(0, 0, 0, 0);
      } else if (stage == 2) {
        desk.ask();
        desk.from(0);
        desk.select(0, 0);
        desk.plan();
        desk.run(200);
      }
    }
    CHECK.same("15: no limit came in", desk.look(2), 6);
  }
}
