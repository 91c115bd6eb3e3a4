import java.util.NoSuchElementException;

/** Promises 1 to 8 and the terms of tables: each sentence that names a boundary has its own test. */
public final class EdgesOfTablesTest {
  private static final Class<NoSuchElementException> NO_SUCH = NoSuchElementException.class;
  private static final Class<IllegalStateException> STATE = IllegalStateException.class;
  private static final Class<IndexOutOfBoundsException> BOUNDS = IndexOutOfBoundsException.class;
  private static final int LEAST = Integer.MIN_VALUE;
  private static final int GREATEST = Integer.MAX_VALUE;
  private static final int[] OUTSIDE_TABLES = {-1, 3, 4, LEAST, GREATEST};
  private static final Check CHECK = new Check("EdgesOfTablesTest");

  public static void main(String[] args) {
    CHECK.sentence("1: No tables", EdgesOfTablesTest::noTables);
    CHECK.sentence("1: an empty question", EdgesOfTablesTest::anEmptyQuestion);
    CHECK.sentence("Terms: TABLES 0 .. 2 with 1 .. 4 COLUMNS of ints", EdgesOfTablesTest::tablesZeroToTwo);
    CHECK.sentence("2: Makes a table anew, with so many columns", EdgesOfTablesTest::createWithColumns);
    CHECK.sentence("2: without rows", EdgesOfTablesTest::createWithoutRows);
    CHECK.sentence("2: without rows and indices", EdgesOfTablesTest::createWithoutIndices);
    CHECK.sentence("2: the question becomes an empty one", EdgesOfTablesTest::createEmptiesEveryQuestion);
    CHECK.sentence("2: false (refused) if table is not 0 .. 2", EdgesOfTablesTest::createRefusesTables);
    CHECK.sentence("2: or columns not 1 .. 4", EdgesOfTablesTest::createRefusesColumns);
    CHECK.sentence("Terms: rows have numbers 0, 1, .. in the order in which they were put in",
        EdgesOfTablesTest::numbersInTheirOrder);
    CHECK.sentence("Terms: never given again", EdgesOfTablesTest::numbersNeverGivenAgain);
    CHECK.sentence("3: (numbers beyond its columns do not count)",
        EdgesOfTablesTest::numbersBeyondTheColumns);
    CHECK.sentence("3: NoSuchElementException: there is no such table", EdgesOfTablesTest::insertIntoNoTable);
    CHECK.sentence("3: else IllegalStateException", EdgesOfTablesTest::insertIntoNoTableBesideFullOnes);
    CHECK.sentence("3: IllegalStateException: it has 24 rows", EdgesOfTablesTest::insertAtTwentyFourRows);
    CHECK.sentence("3: or sixty were put in", EdgesOfTablesTest::insertAtSixtyPutIn);
    CHECK.sentence("4: Takes a row out", EdgesOfTablesTest::deleteTakesOut);
    CHECK.sentence("4: NoSuchElementException: there is no such table", EdgesOfTablesTest::deleteOfNoTable);
    CHECK.sentence("4: or row", EdgesOfTablesTest::deleteOfNoRow);
    CHECK.sentence("5: Changes a number of a row", EdgesOfTablesTest::updateChanges);
    CHECK.sentence("5: NoSuchElementException: there is no such table", EdgesOfTablesTest::updateOfNoTable);
    CHECK.sentence("5: there is no such row", EdgesOfTablesTest::updateOfNoRow);
    CHECK.sentence("5: there is no such column", EdgesOfTablesTest::updateOfNoColumn);
    CHECK.sentence("6: A number of a row", EdgesOfTablesTest::cellTells);
    CHECK.sentence("6: NoSuchElementException: there is no such table", EdgesOfTablesTest::cellOfNoTable);
    CHECK.sentence("6: there is no such row", EdgesOfTablesTest::cellOfNoRow);
    CHECK.sentence("6: there is no such column", EdgesOfTablesTest::cellOfNoColumn);
    CHECK.sentence("Terms: A column can have a HASH index (kind 0) and an ORDERED one (1)",
        EdgesOfTablesTest::bothKindsOfIndex);
    CHECK.sentence("7: false (refused) if there is no such column", EdgesOfTablesTest::indexOfNoColumn);
    CHECK.sentence("7: or kind", EdgesOfTablesTest::indexOfNoKind);
    CHECK.sentence("7: or it has one of the kind", EdgesOfTablesTest::indexOfAKindThatIsThere);
    CHECK.sentence("7: Makes an index of a kind for a column", EdgesOfTablesTest::indexOfATableWithoutRows);
    CHECK.sentence("8: Drops an index", EdgesOfTablesTest::dropDrops);
    CHECK.sentence("8: false (refused) if there is none such", EdgesOfTablesTest::dropOfNone);
    CHECK.end();
  }

  private static void noTables() {
    for (int table = 0; table < 3; table++) {
      int t = table;
      QueryDesk desk = new QueryDesk();
      CHECK.same("look", desk.look(3 + t), -1);
      CHECK.fails("insert", NO_SUCH, () -> desk.insert(t, 1, 2, 3, 4));
      CHECK.fails("delete", NO_SUCH, () -> desk.delete(t, 0));
      CHECK.fails("update", NO_SUCH, () -> desk.update(t, 0, 0, 1));
      CHECK.fails("cell", NO_SUCH, () -> desk.cell(t, 0, 0));
      CHECK.same("index", desk.index(t, 0, 0), false);
      CHECK.same("drop", desk.drop(t, 0, 0), false);
      CHECK.same("from", desk.from(t), -1);
    }
  }

  private static void anEmptyQuestion() {
    QueryDesk desk = new QueryDesk();
    checkNoQuestion(desk);
    CHECK.same("a limit can be set", desk.limit(1), true);
  }

  private static void checkNoQuestion(QueryDesk desk) {
    CHECK.same("not planned", desk.look(0), 0);
    CHECK.same("no steps", desk.look(1), 0);
    CHECK.same("no answers", desk.look(2), 0);
    CHECK.same("no source for a condition", desk.where(0, 0, 0, 0), false);
    CHECK.same("no sources for a join", desk.join(0, 0, 1, 0), false);
    CHECK.same("no source for an output", desk.select(0, 0), -1);
    CHECK.same("no output for an order", desk.order(0, false), false);
    CHECK.same("nothing to run", desk.run(1), -1);
    CHECK.fails("nothing to plan", STATE, desk::plan);
    CHECK.fails("no plan", BOUNDS, () -> desk.explain(0, 0));
    CHECK.fails("no answer", STATE, () -> desk.answer(0, 0));
  }

  private static void tablesZeroToTwo() {
    QueryDesk desk = new QueryDesk();
    for (int table = 0; table < 3; table++) {
      CHECK.same("create " + table, desk.create(table, 4), true);
      desk.insert(table, LEAST, GREATEST, -1, 10 + table);
    }
    for (int table = 0; table < 3; table++) {
      CHECK.same("rows of " + table, desk.look(3 + table), 1);
      CHECK.same("least int", desk.cell(table, 0, 0), LEAST);
      CHECK.same("greatest int", desk.cell(table, 0, 1), GREATEST);
      CHECK.same("below 0", desk.cell(table, 0, 2), -1);
      CHECK.same("its own number", desk.cell(table, 0, 3), 10 + table);
    }
  }

  private static void createWithColumns() {
    for (int before = 1; before <= 4; before++) {
      for (int columns = 1; columns <= 4; columns++) {
        QueryDesk desk = new QueryDesk();
        desk.create(1, before);
        CHECK.same("create", desk.create(1, columns), true);
        desk.insert(1, 10, 11, 12, 13);
        for (int column = 0; column < 4; column++) {
          int c = column;
          if (column < columns) {
            CHECK.same("column " + c + " of " + columns, desk.cell(1, 0, c), 10 + c);
          } else {
            CHECK.fails("column " + c + " of " + columns, NO_SUCH, () -> desk.cell(1, 0, c));
          }
        }
      }
    }
  }

  private static void createWithoutRows() {
    QueryDesk desk = Desks.of(Desks.turns(24, 24));
    Desks.fill(desk, 1, Desks.turns(2, 2));
    desk.create(0, 1);
    CHECK.same("no rows", desk.look(3), 0);
    CHECK.fails("first row", NO_SUCH, () -> desk.cell(0, 0, 0));
    CHECK.fails("last row", NO_SUCH, () -> desk.cell(0, 23, 0));
    CHECK.same("rows of another table", desk.look(4), 2);
    for (int i = 0; i < 60; i++) {
      CHECK.same("sixty numbers again", desk.insert(0, i, 0, 0, 0), i);
      desk.delete(0, i);
    }
    desk.create(0, 1);
    CHECK.same("after sixty", desk.insert(0, 1, 0, 0, 0), 0);
  }

  private static void createWithoutIndices() {
    QueryDesk desk = new QueryDesk();
    desk.create(0, 4);
    desk.create(1, 1);
    desk.index(1, 0, 0);
    for (int column = 0; column < 4; column++) {
      desk.index(0, column, 0);
      desk.index(0, column, 1);
    }
    Desks.fill(desk, 0, Desks.turns(9, 9), Desks.turns(9, 9), Desks.turns(9, 9), Desks.turns(9, 9));
    for (int column = 0; column < 4; column++) {
      Desks.ask(desk, 0);
      desk.where(0, column, 0, 3);
      CHECK.sameFloat("no way but a SCAN", desk.plan(), 9f);
      CHECK.same("no HASH index", desk.drop(0, column, 0), false);
      CHECK.same("no ORDERED index", desk.drop(0, column, 1), false);
    }
    CHECK.same("an index of another table", desk.drop(1, 0, 0), true);
  }

  private static void createEmptiesEveryQuestion() {
    for (int stage = 0; stage <= 3; stage++) {
      for (int table = 0; table < 3; table++) {
        QueryDesk desk = atStage(stage);
        CHECK.same("the stage", desk.look(0), stage);
        CHECK.same("create", desk.create(table, 1), true);
        checkNoQuestion(desk);
        desk.create(0, 1);
        desk.insert(0, 8, 0, 0, 0);
        desk.insert(0, 9, 0, 0, 0);
        CHECK.same("first source", desk.from(0), 0);
        CHECK.same("first output", desk.select(0, 0), 0);
        CHECK.sameText("no condition, order or limit", Desks.answersOfPlanned(desk, 1), "8 9");
      }
    }
  }

  /** A question with every part, at the stage that look(0) tells. */
  private static QueryDesk atStage(int stage) {
    QueryDesk desk = Desks.of(new int[] {1, 2, 3});
    Desks.fill(desk, 1, new int[] {1, 2, 3});
    Desks.ask(desk, 0, 1);
    desk.where(0, 0, 1, 3);
    desk.join(0, 0, 1, 0);
    desk.order(0, true);
    desk.limit(1);
    if (stage > 0) {
      desk.plan();
      desk.run(stage == 2 ? 200 : 2);
    }
    if (stage == 3) {
      desk.delete(1, 0);
    }
    return desk;
  }

  private static void createRefusesTables() {
    for (int table : OUTSIDE_TABLES) {
      for (int columns = 1; columns <= 4; columns++) {
        QueryDesk desk = new QueryDesk();
        CHECK.same("table " + table, desk.create(table, columns), false);
        checkNoTable(desk);
      }
    }
    for (int table = 0; table < 3; table++) {
      CHECK.same("table " + table, new QueryDesk().create(table, 1), true);
    }
  }

  private static void checkNoTable(QueryDesk desk) {
    for (int what = 3; what <= 5; what++) {
      CHECK.same("look " + what, desk.look(what), -1);
    }
  }

  private static void createRefusesColumns() {
    int[] outside = {0, 5, 6, -1, LEAST, GREATEST};
    for (int columns : outside) {
      for (int table = 0; table < 3; table++) {
        QueryDesk desk = new QueryDesk();
        CHECK.same("columns " + columns, desk.create(table, columns), false);
        checkNoTable(desk);
      }
    }
    for (int columns = 1; columns <= 4; columns++) {
      CHECK.same("columns " + columns, new QueryDesk().create(0, columns), true);
    }
  }

  private static void numbersInTheirOrder() {
    QueryDesk desk = new QueryDesk();
    desk.create(0, 1);
    desk.create(2, 1);
    for (int i = 0; i < 24; i++) {
      CHECK.same("of table 0", desk.insert(0, 100 - i, 0, 0, 0), i);
      CHECK.same("of table 2", desk.insert(2, 200 + i, 0, 0, 0), i);
    }
    for (int i = 0; i < 24; i++) {
      CHECK.same("row of table 0", desk.cell(0, i, 0), 100 - i);
      CHECK.same("row of table 2", desk.cell(2, i, 0), 200 + i);
    }
  }

  private static void numbersNeverGivenAgain() {
    QueryDesk desk = Desks.of(new int[] {5, 6, 7});
    desk.delete(0, 2);
    CHECK.same("behind the last", desk.insert(0, 8, 0, 0, 0), 3);
    desk.delete(0, 0);
    CHECK.same("behind a gap", desk.insert(0, 9, 0, 0, 0), 4);
    desk.delete(0, 1);
    desk.delete(0, 3);
    desk.delete(0, 4);
    CHECK.same("empty", desk.look(3), 0);
    CHECK.same("behind all", desk.insert(0, 10, 0, 0, 0), 5);
    for (int row = 0; row < 5; row++) {
      int gone = row;
      CHECK.fails("row " + gone, NO_SUCH, () -> desk.cell(0, gone, 0));
    }
    CHECK.same("the new one", desk.cell(0, 5, 0), 10);
  }

  private static void numbersBeyondTheColumns() {
    for (int columns = 1; columns < 4; columns++) {
      int beyond = columns;
      QueryDesk desk = new QueryDesk();
      desk.create(0, columns);
      CHECK.same("insert", desk.insert(0, 1, 1, 1, 1), 0);
      CHECK.same("insert", desk.insert(0, 1, columns > 1 ? 1 : 2, columns > 2 ? 1 : 2, 2), 1);
      CHECK.fails("cell", NO_SUCH, () -> desk.cell(0, 0, beyond));
      CHECK.fails("update", NO_SUCH, () -> desk.update(0, 0, beyond, 3));
      CHECK.same("index", desk.index(0, beyond, 0), false);
      desk.from(0);
      desk.from(0);
      CHECK.same("where", desk.where(0, beyond, 0, 1), false);
      CHECK.same("join", desk.join(0, beyond, 1, 0), false);
      CHECK.same("select", desk.select(0, beyond), -1);
      desk.select(0, 0);
      desk.where(0, columns - 1, 3, 1);
      CHECK.sameFloat("one value in the last column", desk.plan(), 2f);
    }
  }

  private static void insertIntoNoTable() {
    QueryDesk desk = new QueryDesk();
    desk.create(1, 1);
    for (int table : OUTSIDE_TABLES) {
      CHECK.fails("table " + table, NO_SUCH, () -> desk.insert(table, 1, 1, 1, 1));
    }
    CHECK.fails("table 0, not made", NO_SUCH, () -> desk.insert(0, 1, 1, 1, 1));
    CHECK.fails("table 2, not made", NO_SUCH, () -> desk.insert(2, 1, 1, 1, 1));
    desk.create(0, 5);
    CHECK.fails("table 0, refused", NO_SUCH, () -> desk.insert(0, 1, 1, 1, 1));
    CHECK.same("table 1 has no row", desk.look(4), 0);
    CHECK.same("nor a number given", desk.insert(1, 1, 1, 1, 1), 0);
  }

  private static void insertIntoNoTableBesideFullOnes() {
    QueryDesk desk = Desks.of(Desks.turns(24, 24));
    Desks.fill(desk, 1, Desks.turns(24, 24));
    CHECK.fails("full", STATE, () -> desk.insert(0, 1, 1, 1, 1));
    CHECK.fails("not made", NO_SUCH, () -> desk.insert(2, 1, 1, 1, 1));
    for (int table : OUTSIDE_TABLES) {
      CHECK.fails("table " + table, NO_SUCH, () -> desk.insert(table, 1, 1, 1, 1));
    }
  }

  private static void insertAtTwentyFourRows() {
    QueryDesk desk = Desks.of(Desks.turns(23, 23));
    Desks.fill(desk, 1, Desks.turns(23, 23));
    CHECK.same("the 24th", desk.insert(0, 23, 0, 0, 0), 23);
    CHECK.fails("the 25th", STATE, () -> desk.insert(0, 99, 0, 0, 0));
    CHECK.fails("once more", STATE, () -> desk.insert(0, 99, 0, 0, 0));
    CHECK.same("rows", desk.look(3), 24);
    for (int row = 0; row < 24; row++) {
      CHECK.same("row " + row, desk.cell(0, row, 0), row);
    }
    CHECK.same("another table", desk.insert(1, 23, 0, 0, 0), 23);
    desk.delete(0, 5);
    CHECK.same("room for one", desk.insert(0, 24, 0, 0, 0), 24);
    CHECK.fails("full again", STATE, () -> desk.insert(0, 99, 0, 0, 0));
    CHECK.same("rows again", desk.look(3), 24);
  }

  private static void insertAtSixtyPutIn() {
    QueryDesk desk = new QueryDesk();
    desk.create(0, 1);
    desk.create(1, 1);
    for (int i = 0; i < 59; i++) {
      desk.insert(0, i, 0, 0, 0);
      desk.delete(0, i);
    }
    CHECK.same("the 60th", desk.insert(0, 77, 0, 0, 0), 59);
    CHECK.fails("the 61st, beside one row", STATE, () -> desk.insert(0, 78, 0, 0, 0));
    CHECK.same("one row", desk.look(3), 1);
    CHECK.same("the 60th is there", desk.cell(0, 59, 0), 77);
    desk.delete(0, 59);
    CHECK.fails("the 61st, without rows", STATE, () -> desk.insert(0, 78, 0, 0, 0));
    CHECK.same("no row", desk.look(3), 0);
    CHECK.same("another table", desk.insert(1, 1, 0, 0, 0), 0);
    CHECK.same("anew", desk.create(0, 1), true);
    CHECK.same("from 0 on", desk.insert(0, 1, 0, 0, 0), 0);
  }

  private static void deleteTakesOut() {
    int[] rows = {0, 1, 12, 22, 23};
    for (int gone : rows) {
      QueryDesk desk = Desks.of(Desks.turns(24, 24), Desks.turns(24, 5));
      Desks.fill(desk, 1, Desks.turns(24, 24));
      desk.delete(0, gone);
      CHECK.same("rows", desk.look(3), 23);
      CHECK.same("rows of another table", desk.look(4), 24);
      CHECK.fails("the row", NO_SUCH, () -> desk.cell(0, gone, 0));
      for (int row = 0; row < 24; row++) {
        if (row != gone) {
          CHECK.same("first of " + row, desk.cell(0, row, 0), row);
          CHECK.same("second of " + row, desk.cell(0, row, 1), row % 5);
        }
      }
    }
    QueryDesk desk = Desks.of(new int[] {4});
    desk.delete(0, 0);
    CHECK.same("the only one", desk.look(3), 0);
  }

  private static void deleteOfNoTable() {
    QueryDesk desk = Desks.of(new int[] {4, 5});
    for (int table : OUTSIDE_TABLES) {
      CHECK.fails("table " + table, NO_SUCH, () -> desk.delete(table, 0));
    }
    CHECK.fails("not made", NO_SUCH, () -> desk.delete(1, 0));
    CHECK.same("rows", desk.look(3), 2);
  }

  private static void deleteOfNoRow() {
    QueryDesk desk = Desks.of(new int[] {4, 5, 6});
    desk.create(1, 1);
    desk.delete(0, 1);
    int[] outside = {-1, 1, 3, 24, 59, 60, LEAST, GREATEST};
    for (int row : outside) {
      CHECK.fails("row " + row, NO_SUCH, () -> desk.delete(0, row));
      CHECK.fails("row " + row + " of no rows", NO_SUCH, () -> desk.delete(1, row));
    }
    CHECK.same("rows", desk.look(3), 2);
    CHECK.same("first", desk.cell(0, 0, 0), 4);
    CHECK.same("last", desk.cell(0, 2, 0), 6);
  }

  private static void updateChanges() {
    int[] values = {LEAST, GREATEST, 0, -1};
    for (int row = 0; row < 24; row += 23) {
      for (int column = 0; column < 2; column++) {
        for (int value : values) {
          QueryDesk desk = Desks.of(Desks.turns(24, 24), Desks.turns(24, 7));
          desk.update(0, row, column, value);
          for (int r = 0; r < 24; r++) {
            CHECK.same("first of " + r, desk.cell(0, r, 0), r == row && column == 0 ? value : r);
            CHECK.same("second of " + r, desk.cell(0, r, 1), r == row && column == 1 ? value : r % 7);
          }
        }
      }
    }
  }

  private static void updateOfNoTable() {
    QueryDesk desk = Desks.of(new int[] {4});
    for (int table : OUTSIDE_TABLES) {
      CHECK.fails("table " + table, NO_SUCH, () -> desk.update(table, 0, 0, 9));
    }
    CHECK.fails("not made", NO_SUCH, () -> desk.update(1, 0, 0, 9));
    CHECK.same("unchanged", desk.cell(0, 0, 0), 4);
  }

  private static void updateOfNoRow() {
    QueryDesk desk = Desks.of(new int[] {4, 5, 6});
    desk.create(1, 1);
    desk.delete(0, 1);
    int[] outside = {-1, 1, 3, 24, 60, LEAST, GREATEST};
    for (int row : outside) {
      CHECK.fails("row " + row, NO_SUCH, () -> desk.update(0, row, 0, 9));
      CHECK.fails("row " + row + " of no rows", NO_SUCH, () -> desk.update(1, row, 0, 9));
    }
    CHECK.same("first", desk.cell(0, 0, 0), 4);
    CHECK.same("last", desk.cell(0, 2, 0), 6);
  }

  private static void updateOfNoColumn() {
    for (int columns = 1; columns <= 4; columns++) {
      QueryDesk desk = new QueryDesk();
      desk.create(0, columns);
      desk.insert(0, 4, 4, 4, 4);
      desk.insert(0, 5, 5, 5, 5);
      int[] outside = {-1, columns, 4, LEAST, GREATEST};
      for (int column : outside) {
        CHECK.fails("column " + column, NO_SUCH, () -> desk.update(0, 0, column, 9));
      }
      for (int column = 0; column < columns; column++) {
        CHECK.same("first row", desk.cell(0, 0, column), 4);
        CHECK.same("second row", desk.cell(0, 1, column), 5);
      }
    }
  }

  private static void cellTells() {
    QueryDesk desk = Desks.of(new int[] {LEAST, 1}, new int[] {GREATEST, 2}, new int[] {0, 3}, new int[] {-1, 4});
    int[] first = {LEAST, GREATEST, 0, -1};
    for (int column = 0; column < 4; column++) {
      CHECK.same("first row", desk.cell(0, 0, column), first[column]);
      CHECK.same("second row", desk.cell(0, 1, column), column + 1);
    }
  }

  private static void cellOfNoTable() {
    QueryDesk desk = Desks.of(new int[] {4});
    for (int table : OUTSIDE_TABLES) {
      CHECK.fails("table " + table, NO_SUCH, () -> desk.cell(table, 0, 0));
    }
    CHECK.fails("not made", NO_SUCH, () -> desk.cell(1, 0, 0));
  }

  private static void cellOfNoRow() {
    QueryDesk desk = Desks.of(new int[] {4, 5, 6});
    desk.create(1, 1);
    desk.delete(0, 1);
    int[] outside = {-1, 1, 3, 24, 60, LEAST, GREATEST};
    for (int row : outside) {
      CHECK.fails("row " + row, NO_SUCH, () -> desk.cell(0, row, 0));
      CHECK.fails("row " + row + " of no rows", NO_SUCH, () -> desk.cell(1, row, 0));
    }
  }

  private static void cellOfNoColumn() {
    for (int columns = 1; columns <= 4; columns++) {
      QueryDesk desk = new QueryDesk();
      desk.create(0, columns);
      desk.insert(0, 4, 4, 4, 4);
      desk.insert(0, 5, 5, 5, 5);
      int[] outside = {-1, columns, 4, LEAST, GREATEST};
      for (int column : outside) {
        CHECK.fails("column " + column, NO_SUCH, () -> desk.cell(0, 0, column));
        CHECK.fails("column " + column, NO_SUCH, () -> desk.cell(0, 1, column));
      }
    }
  }

  private static void bothKindsOfIndex() {
    QueryDesk desk = Desks.of(Desks.turns(12, 12), Desks.turns(12, 12));
    CHECK.same("ORDERED", desk.index(0, 1, 1), true);
    CHECK.same("HASH beside it", desk.index(0, 1, 0), true);
    Desks.ask(desk, 0);
    desk.where(0, 1, 0, 3);
    CHECK.sameFloat("by HASH", desk.plan(), 2f);
    Desks.ask(desk, 0);
    desk.where(0, 1, 1, 1);
    CHECK.sameFloat("by ORDERED", desk.plan(), 3f);
    CHECK.same("HASH goes", desk.drop(0, 1, 0), true);
    CHECK.same("ORDERED is still there", desk.drop(0, 1, 1), true);
  }

  private static void indexOfNoColumn() {
    for (int columns = 1; columns <= 4; columns++) {
      QueryDesk desk = new QueryDesk();
      desk.create(0, columns);
      for (int kind = 0; kind < 2; kind++) {
        int[] outside = {-1, columns, 4, 5, LEAST, GREATEST};
        for (int column : outside) {
          CHECK.same("column " + column, desk.index(0, column, kind), false);
        }
        for (int table : OUTSIDE_TABLES) {
          CHECK.same("table " + table, desk.index(table, 0, kind), false);
        }
        CHECK.same("not made", desk.index(1, 0, kind), false);
        for (int column = 0; column < columns; column++) {
          CHECK.same("nothing made", desk.drop(0, column, kind), false);
        }
      }
    }
  }

  private static void indexOfNoKind() {
    QueryDesk desk = new QueryDesk();
    desk.create(0, 4);
    int[] outside = {-1, 2, 3, LEAST, GREATEST};
    for (int kind : outside) {
      for (int column = 0; column < 4; column++) {
        CHECK.same("kind " + kind, desk.index(0, column, kind), false);
      }
    }
    for (int column = 0; column < 4; column++) {
      CHECK.same("no HASH", desk.drop(0, column, 0), false);
      CHECK.same("no ORDERED", desk.drop(0, column, 1), false);
    }
  }

  private static void indexOfAKindThatIsThere() {
    for (int kind = 0; kind < 2; kind++) {
      QueryDesk desk = new QueryDesk();
      desk.create(0, 2);
      desk.create(1, 2);
      CHECK.same("made", desk.index(0, 1, kind), true);
      CHECK.same("again", desk.index(0, 1, kind), false);
      CHECK.same("the other kind", desk.index(0, 1, 1 - kind), true);
      CHECK.same("the other column", desk.index(0, 0, kind), true);
      CHECK.same("the other table", desk.index(1, 1, kind), true);
      CHECK.same("still there", desk.index(0, 1, kind), false);
      CHECK.same("dropped", desk.drop(0, 1, kind), true);
      CHECK.same("anew", desk.index(0, 1, kind), true);
    }
  }

  private static void indexOfATableWithoutRows() {
    for (int kind = 0; kind < 2; kind++) {
      QueryDesk desk = new QueryDesk();
      desk.create(0, 1);
      CHECK.same("without rows", desk.index(0, 0, kind), true);
      for (int i = 0; i < 10; i++) {
        desk.insert(0, i, 0, 0, 0);
      }
      Desks.ask(desk, 0);
      desk.where(0, 0, 0, 4);
      CHECK.sameFloat("it knows the rows that came", desk.plan(), 1f + kind + 1f);
      CHECK.same("its way", desk.explain(0, 1), 1 + kind);
    }
  }

  private static void dropDrops() {
    for (int kind = 0; kind < 2; kind++) {
      QueryDesk desk = Desks.of(Desks.turns(10, 10));
      desk.index(0, 0, kind);
      CHECK.same("drop", desk.drop(0, 0, kind), true);
      Desks.ask(desk, 0);
      desk.where(0, 0, 0, 4);
      CHECK.sameFloat("no way any more", desk.plan(), 10f);
      CHECK.same("rows stay", desk.look(3), 10);
    }
  }

  private static void dropOfNone() {
    for (int kind = 0; kind < 2; kind++) {
      QueryDesk desk = new QueryDesk();
      desk.create(0, 2);
      desk.create(1, 2);
      CHECK.same("never made", desk.drop(0, 1, kind), false);
      desk.index(0, 1, kind);
      CHECK.same("other kind", desk.drop(0, 1, 1 - kind), false);
      CHECK.same("other column", desk.drop(0, 0, kind), false);
      CHECK.same("other table", desk.drop(1, 1, kind), false);
      CHECK.same("not made", desk.drop(2, 1, kind), false);
      for (int table : OUTSIDE_TABLES) {
        CHECK.same("table " + table, desk.drop(table, 1, kind), false);
      }
      int[] outside = {-1, 2, 3, 4, LEAST, GREATEST};
      for (int wrong : outside) {
        CHECK.same("column " + wrong, desk.drop(0, wrong, kind), false);
        CHECK.same("kind " + wrong, desk.drop(0, 1, wrong), false);
      }
      CHECK.same("there", desk.drop(0, 1, kind), true);
      CHECK.same("gone", desk.drop(0, 1, kind), false);
    }
  }
}
