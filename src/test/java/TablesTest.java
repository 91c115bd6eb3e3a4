import java.util.NoSuchElementException;

/** Promises 1 to 8: a new object, create, insert, delete, update, cell, index, drop. */
public final class TablesTest {
  private static final int[] NO_TABLES = {-1, 1, 2, 3, Integer.MIN_VALUE, Integer.MAX_VALUE};
  private static final Check CHECK = new Check("TablesTest");

  public static void main(String[] args) {
    newObject();
    create();
    createAnew();
    createEmptiesTheQuestion();
    insert();
    insertLimits();
    delete();
    update();
    cell();
    index();
    drop();
    changesEndAQuestion();
    refusalsEndNoQuestion();
    CHECK.end();
  }

  private static void newObject() {
    QueryDesk desk = new QueryDesk();
    CHECK.same("1: no question planned", desk.look(0), 0);
    CHECK.same("1: no steps", desk.look(1), 0);
    CHECK.same("1: no answers", desk.look(2), 0);
    for (int table = 0; table < 3; table++) {
      int t = table;
      CHECK.same("1: no table " + t, desk.look(3 + t), -1);
      CHECK.same("1: from " + t, desk.from(t), -1);
      CHECK.same("1: index " + t, desk.index(t, 0, 0), false);
      CHECK.fails("1: insert " + t, NoSuchElementException.class, () -> desk.insert(t, 1, 2, 3, 4));
    }
    CHECK.same("1: where", desk.where(0, 0, 0, 0), false);
    CHECK.same("1: select", desk.select(0, 0), -1);
    CHECK.same("1: order", desk.order(0, true), false);
    CHECK.same("1: run", desk.run(1), -1);
    CHECK.fails("1: plan", IllegalStateException.class, desk::plan);
    CHECK.fails("1: explain", IndexOutOfBoundsException.class, () -> desk.explain(0, 0));
    CHECK.fails("1: answer", IllegalStateException.class, () -> desk.answer(0, 0));
  }

  private static void create() {
    QueryDesk desk = new QueryDesk();
    int[] wrongTables = {-1, 3, Integer.MIN_VALUE, Integer.MAX_VALUE};
    for (int table : wrongTables) {
      CHECK.same("2: table " + table, desk.create(table, 1), false);
    }
    int[] wrongColumns = {0, 5, -1, Integer.MIN_VALUE, Integer.MAX_VALUE};
    for (int columns : wrongColumns) {
      CHECK.same("2: columns " + columns, desk.create(0, columns), false);
    }
    CHECK.same("2: refused makes no table", desk.look(3), -1);
    for (int columns = 1; columns <= 4; columns++) {
      int beyond = columns;
      CHECK.same("2: create with " + columns, desk.create(2, columns), true);
      CHECK.same("2: empty", desk.look(5), 0);
      desk.insert(2, 10, 11, 12, 13);
      CHECK.same("2: last column", desk.cell(2, 0, columns - 1), 9 + columns);
      CHECK.fails("2: column behind", NoSuchElementException.class, () -> desk.cell(2, 0, beyond));
    }
    CHECK.same("2: table 0 untouched", desk.look(3), -1);
    CHECK.same("2: table 1 untouched", desk.look(4), -1);
  }

  private static void createAnew() {
    QueryDesk desk = new QueryDesk();
    desk.create(0, 2);
    desk.create(1, 1);
    desk.insert(1, 7, 0, 0, 0);
    for (int i = 0; i < 60; i++) {
      desk.insert(0, i, i, 0, 0);
      desk.delete(0, i);
    }
    CHECK.same("2: anew", desk.create(0, 4), true);
    CHECK.same("2: numbers begin again", desk.insert(0, 1, 2, 3, 4), 0);
    for (int column = 0; column < 4; column++) {
      desk.index(0, column, 0);
      desk.index(0, column, 1);
    }
    desk.index(1, 0, 1);
    CHECK.same("2: anew with as many columns", desk.create(0, 4), true);
    CHECK.same("2: no rows", desk.look(3), 0);
    CHECK.fails("2: no row", NoSuchElementException.class, () -> desk.cell(0, 0, 0));
    for (int column = 0; column < 4; column++) {
      CHECK.same("2: no hash index", desk.drop(0, column, 0), false);
      CHECK.same("2: no ordered index", desk.drop(0, column, 1), false);
    }
    CHECK.same("2: other table stays", desk.cell(1, 0, 0), 7);
    CHECK.same("2: with its index", desk.drop(1, 0, 1), true);
  }

  private static void createEmptiesTheQuestion() {
    QueryDesk desk = underWay();
    CHECK.same("2: refused", desk.create(0, 0), false);
    CHECK.same("2: refused leaves the question", desk.look(0), 1);
    CHECK.same("2: another table", desk.create(2, 1), true);
    CHECK.same("2: no question", desk.look(0), 0);
    CHECK.same("2: no steps", desk.look(1), 0);
    CHECK.same("2: no answers", desk.look(2), 0);
    CHECK.fails("2: no plan", IndexOutOfBoundsException.class, () -> desk.explain(0, 0));
    CHECK.same("2: no source", desk.select(0, 0), -1);
    CHECK.same("2: sources from 0", desk.from(0), 0);
    CHECK.same("2: no output", desk.order(0, false), false);
    CHECK.same("2: rows of others stay", desk.look(3), 3);
  }

  private static void insert() {
    QueryDesk desk = new QueryDesk();
    desk.create(0, 2);
    for (int table : NO_TABLES) {
      CHECK.fails("3: table " + table, NoSuchElementException.class, () -> desk.insert(table, 1, 1, 1, 1));
    }
    CHECK.same("3: first", desk.insert(0, Integer.MIN_VALUE, Integer.MAX_VALUE, 1, 2), 0);
    CHECK.same("3: second", desk.insert(0, -5, 6, 3, 4), 1);
    CHECK.same("3: rows", desk.look(3), 2);
    CHECK.same("3: least int", desk.cell(0, 0, 0), Integer.MIN_VALUE);
    CHECK.same("3: greatest int", desk.cell(0, 0, 1), Integer.MAX_VALUE);
    CHECK.same("3: a", desk.cell(0, 1, 0), -5);
    CHECK.same("3: b", desk.cell(0, 1, 1), 6);
    desk.create(1, 4);
    desk.insert(1, 21, 22, 23, 24);
    for (int column = 0; column < 4; column++) {
      CHECK.same("3: of four", desk.cell(1, 0, column), 21 + column);
    }
  }

  private static void insertLimits() {
    QueryDesk desk = new QueryDesk();
    desk.create(1, 1);
    for (int i = 0; i < 24; i++) {
      CHECK.same("3: number", desk.insert(1, 100 + i, 0, 0, 0), i);
    }
    CHECK.fails("3: 25th row", IllegalStateException.class, () -> desk.insert(1, 1, 0, 0, 0));
    CHECK.same("3: still 24", desk.look(4), 24);
    for (int i = 24; i < 60; i++) {
      desk.delete(1, i - 24);
      CHECK.same("3: number never given again", desk.insert(1, 100 + i, 0, 0, 0), i);
    }
    desk.delete(1, 59);
    desk.delete(1, 40);
    CHECK.fails("3: 61st put in", IllegalStateException.class, () -> desk.insert(1, 1, 0, 0, 0));
    CHECK.same("3: rows left", desk.look(4), 22);
    for (int i = 36; i < 59; i++) {
      if (i != 40) {
        CHECK.same("3: row " + i, desk.cell(1, i, 0), 100 + i);
      }
    }
  }

  private static void delete() {
    QueryDesk desk = new QueryDesk();
    desk.create(0, 1);
    for (int i = 0; i < 24; i++) {
      desk.insert(0, 50 + i, 0, 0, 0);
    }
    for (int table : NO_TABLES) {
      CHECK.fails("4: table " + table, NoSuchElementException.class, () -> desk.delete(table, 0));
    }
    int[] wrongRows = {-1, 24, 60, Integer.MIN_VALUE, Integer.MAX_VALUE};
    for (int row : wrongRows) {
      CHECK.fails("4: row " + row, NoSuchElementException.class, () -> desk.delete(0, row));
    }
    CHECK.same("4: nothing gone", desk.look(3), 24);
    int[] gone = {23, 0, 11};
    for (int row : gone) {
      desk.delete(0, row);
      CHECK.fails("4: again " + row, NoSuchElementException.class, () -> desk.delete(0, row));
      CHECK.fails("4: cell " + row, NoSuchElementException.class, () -> desk.cell(0, row, 0));
    }
    CHECK.same("4: rows", desk.look(3), 21);
    for (int i = 1; i < 23; i++) {
      if (i != 11) {
        CHECK.same("4: row " + i, desk.cell(0, i, 0), 50 + i);
      }
    }
  }

  private static void update() {
    QueryDesk desk = new QueryDesk();
    desk.create(0, 2);
    desk.insert(0, 1, 2, 3, 4);
    desk.insert(0, 5, 6, 7, 8);
    desk.delete(0, 0);
    for (int table : NO_TABLES) {
      CHECK.fails("5: table " + table, NoSuchElementException.class, () -> desk.update(table, 1, 0, 9));
    }
    int[] wrongs = {-1, 2, Integer.MIN_VALUE, Integer.MAX_VALUE};
    for (int wrong : wrongs) {
      CHECK.fails("5: row " + wrong, NoSuchElementException.class, () -> desk.update(0, wrong, 0, 9));
      CHECK.fails("5: column " + wrong, NoSuchElementException.class, () -> desk.update(0, 1, wrong, 9));
    }
    CHECK.fails("5: row taken out", NoSuchElementException.class, () -> desk.update(0, 0, 0, 9));
    CHECK.same("5: unchanged a", desk.cell(0, 1, 0), 5);
    CHECK.same("5: unchanged b", desk.cell(0, 1, 1), 6);
    desk.update(0, 1, 1, Integer.MIN_VALUE);
    CHECK.same("5: other column", desk.cell(0, 1, 0), 5);
    CHECK.same("5: changed", desk.cell(0, 1, 1), Integer.MIN_VALUE);
  }

  private static void cell() {
    QueryDesk desk = new QueryDesk();
    desk.create(0, 3);
    desk.insert(0, 1, 2, 3, 4);
    desk.insert(0, 5, 6, 7, 8);
    for (int table : NO_TABLES) {
      CHECK.fails("6: table " + table, NoSuchElementException.class, () -> desk.cell(table, 0, 0));
    }
    int[] wrongs = {-1, 3, Integer.MIN_VALUE, Integer.MAX_VALUE};
    for (int wrong : wrongs) {
      CHECK.fails("6: row " + wrong, NoSuchElementException.class, () -> desk.cell(0, wrong, 0));
      CHECK.fails("6: column " + wrong, NoSuchElementException.class, () -> desk.cell(0, 0, wrong));
    }
    CHECK.same("6: first", desk.cell(0, 0, 0), 1);
    CHECK.same("6: last", desk.cell(0, 1, 2), 7);
  }

  private static void index() {
    QueryDesk desk = new QueryDesk();
    desk.create(0, 2);
    for (int table : NO_TABLES) {
      CHECK.same("7: table " + table, desk.index(table, 0, 0), false);
    }
    int[] wrongs = {-1, 2, 4, Integer.MIN_VALUE, Integer.MAX_VALUE};
    for (int wrong : wrongs) {
      CHECK.same("7: column " + wrong, desk.index(0, wrong, 0), false);
      CHECK.same("7: kind " + wrong, desk.index(0, 0, wrong), false);
    }
    for (int column = 0; column < 2; column++) {
      for (int kind = 0; kind < 2; kind++) {
        CHECK.same("7: made", desk.index(0, column, kind), true);
        CHECK.same("7: has one", desk.index(0, column, kind), false);
      }
    }
  }

  private static void drop() {
    QueryDesk desk = new QueryDesk();
    desk.create(0, 2);
    desk.index(0, 0, 0);
    desk.index(0, 1, 1);
    for (int table : NO_TABLES) {
      CHECK.same("8: table " + table, desk.drop(table, 0, 0), false);
    }
    int[] wrongs = {-1, 2, 4, Integer.MIN_VALUE, Integer.MAX_VALUE};
    for (int wrong : wrongs) {
      CHECK.same("8: column " + wrong, desk.drop(0, wrong, 0), false);
      CHECK.same("8: kind " + wrong, desk.drop(0, 0, wrong), false);
    }
    CHECK.same("8: other kind", desk.drop(0, 0, 1), false);
    CHECK.same("8: other column", desk.drop(0, 1, 0), false);
    CHECK.same("8: hash", desk.drop(0, 0, 0), true);
    CHECK.same("8: hash again", desk.drop(0, 0, 0), false);
    CHECK.same("8: ordered is still there", desk.index(0, 1, 1), false);
    CHECK.same("8: ordered", desk.drop(0, 1, 1), true);
    CHECK.same("8: made again", desk.index(0, 0, 0), true);
  }

  private static void changesEndAQuestion() {
    for (int table = 0; table < 2; table++) {
      for (int change = 0; change < 6; change++) {
        QueryDesk desk = underWay();
        int found = desk.look(2);
        CHECK.same("3-8: change " + change, makeChange(desk, table, change), true);
        CHECK.same("3-8: ended by " + change, desk.look(0), 3);
        CHECK.same("3-8: steps stay", desk.look(1), 2);
        CHECK.same("3-8: answers found stay", desk.look(2), found);
        CHECK.same("3-8: the plan stays", desk.explain(0, 0), 0);
        CHECK.same("3-8: run", desk.run(1), -1);
        CHECK.fails("3-8: answer", IllegalStateException.class, () -> desk.answer(0, 0));
        CHECK.fails("3-8: plan", IllegalStateException.class, desk::plan);
        CHECK.same("3-8: from", desk.from(0), -1);
        desk.ask();
        CHECK.same("3-8: a new question", desk.look(0), 0);
      }
    }
  }

  private static boolean makeChange(QueryDesk desk, int table, int change) {
    switch (change) {
      case 0:
        return desk.insert(table, 1, 1, 1, 1) >= 0;
      case 1:
        desk.delete(table, 0);
        return true;
      case 2:
        desk.update(table, 0, 0, 99);
        return true;
      case 3:
        desk.update(table, 0, 0, desk.cell(table, 0, 0));
        return true;
      case 4:
        return desk.index(table, 0, 1);
      default:
        return desk.drop(table, 0, 0);
    }
  }

  private static void refusalsEndNoQuestion() {
    QueryDesk desk = underWay();
    CHECK.fails("delete", NoSuchElementException.class, () -> desk.delete(0, 9));
    CHECK.fails("update", NoSuchElementException.class, () -> desk.update(0, 0, 2, 1));
    CHECK.fails("insert", NoSuchElementException.class, () -> desk.insert(2, 0, 0, 0, 0));
    CHECK.same("index", desk.index(0, 0, 0), false);
    CHECK.same("drop", desk.drop(0, 0, 1), false);
    desk.cell(0, 0, 0);
    CHECK.same("still under way", desk.look(0), 1);
    CHECK.same("goes on", desk.run(200), 1);
    CHECK.same("answered", desk.look(0), 2);
    desk.insert(0, 70, 0, 0, 0);
    desk.update(0, 0, 0, 77);
    desk.delete(0, 1);
    desk.index(0, 0, 1);
    CHECK.same("an answered question stays answered", desk.look(0), 2);
    CHECK.same("with its answers", desk.answer(0, 0), 1);
    CHECK.same("all of them", desk.answer(2, 0), 3);
  }

  /** Table 0 of three rows and table 1 of one, both with a hash index; two steps of three made. */
  private static QueryDesk underWay() {
    QueryDesk desk = new QueryDesk();
    desk.create(0, 2);
    desk.create(1, 2);
    for (int i = 1; i <= 3; i++) {
      desk.insert(0, i, 10 * i, 0, 0);
    }
    desk.insert(1, 5, 6, 0, 0);
    desk.index(0, 0, 0);
    desk.index(1, 0, 0);
    desk.from(0);
    desk.select(0, 0);
    desk.plan();
    desk.run(2);
    return desk;
  }
}
