/** Promises 9 to 15 and the terms of questions: each sentence that names a boundary has its own test. */
public final class EdgesOfQuestionsTest {
  private static final int LEAST = Integer.MIN_VALUE;
  private static final int GREATEST = Integer.MAX_VALUE;
  private static final int[] OUTSIDE_TABLES = {-1, 3, 4, LEAST, GREATEST};
  private static final Check CHECK = new Check("EdgesOfQuestionsTest");

  public static void main(String[] args) {
    CHECK.sentence("9: Begins a new question, with nothing in it (sources)",
        EdgesOfQuestionsTest::askLeavesNoSource);
    CHECK.sentence("9: Begins a new question, with nothing in it (conditions)",
        EdgesOfQuestionsTest::askLeavesNoCondition);
    CHECK.sentence("9: Begins a new question, with nothing in it (joins)",
        EdgesOfQuestionsTest::askLeavesNoJoin);
    CHECK.sentence("9: Begins a new question, with nothing in it (outputs)",
        EdgesOfQuestionsTest::askLeavesNoOutput);
    CHECK.sentence("9: Begins a new question, with nothing in it (order)",
        EdgesOfQuestionsTest::askLeavesNoOrder);
    CHECK.sentence("9: Begins a new question, with nothing in it (limit)",
        EdgesOfQuestionsTest::askLeavesNoLimit);
    CHECK.sentence("9: Begins a new question", EdgesOfQuestionsTest::askBeginsAtEveryStage);
    CHECK.sentence("Terms: up to 3 SOURCES 0, 1, 2, each a table (also the same)",
        EdgesOfQuestionsTest::fromAddsAndTellsTheNumber);
    CHECK.sentence("10: -1 (refused) if there is no such table", EdgesOfQuestionsTest::fromNoTable);
    CHECK.sentence("10: three are there", EdgesOfQuestionsTest::fromAFourthTime);
    CHECK.sentence("10: or the question was planned", EdgesOfQuestionsTest::fromOfAPlannedQuestion);
    CHECK.sentence("11: false (refused) if there is no such source", EdgesOfQuestionsTest::whereOfNoSource);
    CHECK.sentence("11: no such column", EdgesOfQuestionsTest::whereOfNoColumn);
    CHECK.sentence("11: no such operator", EdgesOfQuestionsTest::whereOfNoOperator);
    CHECK.sentence("Terms: an operator (0 =, 1 <, 2 >, 3 not equal) and a number",
        EdgesOfQuestionsTest::whereWithAnyNumber);
    CHECK.sentence("11: four are there", EdgesOfQuestionsTest::whereAFifthTime);
    CHECK.sentence("11: or the question was planned", EdgesOfQuestionsTest::whereOfAPlannedQuestion);
    CHECK.sentence("12: false (refused) if there is no such source", EdgesOfQuestionsTest::joinOfNoSource);
    CHECK.sentence("12: no such column", EdgesOfQuestionsTest::joinOfNoColumn);
    CHECK.sentence("12: both sources are the same", EdgesOfQuestionsTest::joinWithItself);
    CHECK.sentence("Terms: up to 3 JOINS: the columns of two different sources are equal",
        EdgesOfQuestionsTest::joinOfOneTableTwice);
    CHECK.sentence("12: three are there", EdgesOfQuestionsTest::joinAFourthTime);
    CHECK.sentence("12: or the question was planned", EdgesOfQuestionsTest::joinOfAPlannedQuestion);
    CHECK.sentence("13: Adds an output: its number", EdgesOfQuestionsTest::selectAddsAndTellsTheNumber);
    CHECK.sentence("13: -1 (refused) if there is no such source", EdgesOfQuestionsTest::selectOfNoSource);
    CHECK.sentence("13: no such column", EdgesOfQuestionsTest::selectOfNoColumn);
    CHECK.sentence("13: four are there", EdgesOfQuestionsTest::selectAFifthTime);
    CHECK.sentence("13: or the question was planned", EdgesOfQuestionsTest::selectOfAPlannedQuestion);
    CHECK.sentence("14: false (refused) if there is no such output", EdgesOfQuestionsTest::orderOfNoOutput);
    CHECK.sentence("14: Sets the ORDER", EdgesOfQuestionsTest::orderIsSetAgain);
    CHECK.sentence("14: or the question was planned", EdgesOfQuestionsTest::orderOfAPlannedQuestion);
    CHECK.sentence("15: false (refused) if it is not 1 .. 64", EdgesOfQuestionsTest::limitOutside);
    CHECK.sentence("15: Sets the LIMIT", EdgesOfQuestionsTest::limitInside);
    CHECK.sentence("Terms: a LIMIT (1 .. 64, 64 at first)", EdgesOfQuestionsTest::limitAtFirst);
    CHECK.sentence("15: or the question was planned", EdgesOfQuestionsTest::limitOfAPlannedQuestion);
    CHECK.end();
  }

  /** Tables 0, 1, 2 with 1, 2, 4 columns: 1, 2, 3 in each of them but column 2 of table 2. */
  private static QueryDesk threeTables() {
    int[] values = {1, 2, 3};
    QueryDesk desk = Desks.of(values);
    Desks.fill(desk, 1, values, values);
    Desks.fill(desk, 2, values, values, new int[] {4, 5, 6}, values);
    return desk;
  }

  /** Three sources and four outputs were in the question before; none of them counts any more. */
  private static QueryDesk askedAnew() {
    QueryDesk desk = threeTables();
    Desks.ask(desk, 0, 0, 0);
    desk.select(0, 0);
    desk.ask();
    return desk;
  }

  private static void askLeavesNoSource() {
    QueryDesk desk = threeTables();
    desk.from(2);
    desk.from(1);
    desk.from(0);
    desk.ask();
    CHECK.same("no source for a condition", desk.where(0, 0, 0, 0), false);
    CHECK.same("no source for an output", desk.select(2, 0), -1);
    for (int i = 0; i < 3; i++) {
      CHECK.same("room for three", desk.from(0), i);
    }
    CHECK.same("columns of the new source", desk.select(0, 1), -1);
  }

  private static void askLeavesNoCondition() {
    QueryDesk desk = threeTables();
    desk.from(0);
    for (int i = 0; i < 4; i++) {
      desk.where(0, 0, 0, 77);
    }
    Desks.ask(desk, 0);
    for (int i = 0; i < 4; i++) {
      CHECK.same("room for four", desk.where(0, 0, 3, 2), true);
    }
    Desks.ask(desk, 0);
    CHECK.sameText("none is asked", Desks.answersOfPlanned(desk, 1), "1 2 3");
  }

  private static void askLeavesNoJoin() {
    QueryDesk desk = threeTables();
    Desks.ask(desk, 0, 1);
    for (int i = 0; i < 3; i++) {
      desk.join(0, 0, 1, 0);
    }
    Desks.ask(desk, 0, 1);
    for (int i = 0; i < 3; i++) {
      CHECK.same("room for three", desk.join(0, 0, 1, 0), true);
    }
    Desks.ask(desk, 0, 1);
    CHECK.sameText("none is asked", Desks.answersOfPlanned(desk, 2), "1,1 1,2 1,3 2,1 2,2 2,3 3,1 3,2 3,3");
  }

  private static void askLeavesNoOutput() {
    QueryDesk desk = threeTables();
    desk.from(0);
    for (int i = 0; i < 4; i++) {
      desk.select(0, 0);
    }
    desk.ask();
    desk.from(0);
    CHECK.same("none for an order", desk.order(0, true), false);
    CHECK.fails("none for a plan", IllegalStateException.class, desk::plan);
    for (int i = 0; i < 4; i++) {
      CHECK.same("room for four", desk.select(0, 0), i);
    }
  }

  private static void askLeavesNoOrder() {
    QueryDesk desk = Desks.of(new int[] {2, 3, 1});
    for (int i = 0; i < 2; i++) {
      Desks.ask(desk, 0);
      desk.order(0, i == 0);
      Desks.ask(desk, 0);
      CHECK.sameText("as found", Desks.answersOfPlanned(desk, 1), "2 3 1");
    }
  }

  private static void askLeavesNoLimit() {
    QueryDesk desk = threeTables();
    Desks.ask(desk, 0);
    desk.limit(1);
    Desks.ask(desk, 0);
    CHECK.sameText("all", Desks.answersOfPlanned(desk, 1), "1 2 3");
  }

  private static void askBeginsAtEveryStage() {
    for (int stage = 0; stage <= 3; stage++) {
      QueryDesk desk = threeTables();
      bringToStage(desk, stage);
      CHECK.same("the stage", desk.look(0), stage);
      desk.ask();
      CHECK.same("not planned", desk.look(0), 0);
      CHECK.same("no steps", desk.look(1), 0);
      CHECK.same("no answers", desk.look(2), 0);
      CHECK.same("nothing to run", desk.run(1), -1);
      CHECK.fails("no plan", IndexOutOfBoundsException.class, () -> desk.explain(0, 0));
      CHECK.fails("no answer", IllegalStateException.class, () -> desk.answer(0, 0));
      CHECK.fails("nothing to plan", IllegalStateException.class, desk::plan);
      CHECK.same("first source", desk.from(1), 0);
      CHECK.same("first output", desk.select(0, 1), 0);
      CHECK.sameText("the new answers", Desks.answersOfPlanned(desk, 1), "1 2 3");
    }
  }

  /** A question of sources 0 and 1 (tables 0 and 2) at the stage that look(0) tells. */
  private static void bringToStage(QueryDesk desk, int stage) {
    Desks.ask(desk, 0, 2);
    desk.join(0, 0, 1, 3);
    if (stage > 0) {
      desk.plan();
      desk.run(stage == 2 ? 200 : 2);
    }
    if (stage == 3) {
      desk.update(1, 0, 0, 1);
    }
  }

  private static void fromAddsAndTellsTheNumber() {
    for (int table = 0; table < 3; table++) {
      QueryDesk desk = threeTables();
      for (int number = 0; number < 3; number++) {
        CHECK.same("the same table", desk.from(table), number);
      }
      desk.select(2, 0);
      CHECK.sameFloat("three times three rows", desk.plan(), 3f + 9f + 27f);
    }
    QueryDesk desk = threeTables();
    for (int number = 0; number < 3; number++) {
      CHECK.same("each another", desk.from(2 - number), number);
    }
    CHECK.same("source 0 has four columns", desk.select(0, 3), 0);
    CHECK.same("source 1 has two", desk.select(1, 1), 1);
    CHECK.same("and no third", desk.select(1, 2), -1);
    CHECK.same("source 2 has one", desk.select(2, 1), -1);
  }

  private static void fromNoTable() {
    QueryDesk desk = Desks.of(new int[] {1});
    for (int table : OUTSIDE_TABLES) {
      CHECK.same("table " + table, desk.from(table), -1);
    }
    CHECK.same("table 1, not made", desk.from(1), -1);
    CHECK.same("table 2, not made", desk.from(2), -1);
    CHECK.same("no source came in", desk.from(0), 0);
    desk.create(1, 1);
    CHECK.same("a table without rows", desk.from(1), 0);
  }

  private static void fromAFourthTime() {
    QueryDesk desk = threeTables();
    for (int number = 0; number < 3; number++) {
      CHECK.same("source", desk.from(0), number);
    }
    for (int table = 0; table < 3; table++) {
      CHECK.same("a fourth", desk.from(table), -1);
    }
    CHECK.same("there is no source 3", desk.select(3, 0), -1);
    desk.select(2, 0);
    desk.plan();
    CHECK.same("three in the plan", desk.explain(2, 0), 2);
    CHECK.fails("and no more", IndexOutOfBoundsException.class, () -> desk.explain(3, 0));
  }

  private static void fromOfAPlannedQuestion() {
    for (int stage = 1; stage <= 3; stage++) {
      QueryDesk desk = threeTables();
      bringToStage(desk, stage);
      CHECK.same("at stage " + stage, desk.from(0), -1);
      CHECK.same("the stage stays", desk.look(0), stage);
      CHECK.fails("two in the plan", IndexOutOfBoundsException.class, () -> desk.explain(2, 0));
    }
  }

  private static void whereOfNoSource() {
    QueryDesk desk = askedAnew();
    for (int sources = 0; sources <= 3; sources++) {
      int[] outside = {-1, sources, 3, LEAST, GREATEST};
      for (int source : outside) {
        CHECK.same("source " + source + " of " + sources, desk.where(source, 0, 0, 1), false);
      }
      desk.from(0);
    }
    CHECK.same("the last source", desk.where(2, 0, 0, 1), true);
  }

  private static void whereOfNoColumn() {
    QueryDesk desk = threeTables();
    desk.from(2);
    desk.from(0);
    desk.from(1);
    int[] columns = {4, 1, 2};
    for (int source = 0; source < 3; source++) {
      int[] outside = {-1, columns[source], 4, 5, LEAST, GREATEST};
      for (int column : outside) {
        CHECK.same("column " + column + " of source " + source, desk.where(source, column, 0, 1), false);
      }
      CHECK.same("the last column", desk.where(source, columns[source] - 1, 0, 1), true);
    }
  }

  private static void whereOfNoOperator() {
    QueryDesk desk = threeTables();
    desk.from(0);
    int[] outside = {-1, 4, 5, LEAST, GREATEST};
    for (int operator : outside) {
      CHECK.same("operator " + operator, desk.where(0, 0, operator, 1), false);
    }
    for (int operator = 0; operator < 4; operator++) {
      CHECK.same("operator " + operator, desk.where(0, 0, operator, 1), true);
    }
  }

  private static void whereWithAnyNumber() {
    int[] numbers = {LEAST, -1, 0, GREATEST};
    String[][] due = {
      {"-2147483648", "", "-1 0 2147483647", "-1 0 2147483647"},
      {"-1", "-2147483648", "0 2147483647", "-2147483648 0 2147483647"},
      {"0", "-2147483648 -1", "2147483647", "-2147483648 -1 2147483647"},
      {"2147483647", "-2147483648 -1 0", "", "-2147483648 -1 0"},
    };
    for (int i = 0; i < numbers.length; i++) {
      for (int operator = 0; operator < 4; operator++) {
        QueryDesk desk = Desks.of(numbers);
        Desks.ask(desk, 0);
        CHECK.same("where", desk.where(0, 0, operator, numbers[i]), true);
        CHECK.sameText(operator + " " + numbers[i], Desks.answersOfPlanned(desk, 1), due[i][operator]);
      }
    }
  }

  private static void whereAFifthTime() {
    QueryDesk desk = threeTables();
    Desks.ask(desk, 0, 1);
    CHECK.same("first", desk.where(0, 0, 2, 0), true);
    CHECK.same("second", desk.where(1, 1, 2, 0), true);
    CHECK.same("third, of the same column", desk.where(0, 0, 2, 0), true);
    CHECK.same("fourth", desk.where(0, 0, 3, 2), true);
    CHECK.same("fifth", desk.where(0, 0, 0, 1), false);
    CHECK.same("fifth, of another source", desk.where(1, 0, 0, 1), false);
    desk.order(0, false);
    CHECK.sameText("four are asked", Desks.answersOfPlanned(desk, 2), "1,1 1,2 1,3 3,1 3,2 3,3");
  }

  private static void whereOfAPlannedQuestion() {
    for (int stage = 1; stage <= 3; stage++) {
      QueryDesk desk = threeTables();
      bringToStage(desk, stage);
      CHECK.same("at stage " + stage, desk.where(0, 0, 0, 77), false);
      CHECK.same("the stage stays", desk.look(0), stage);
      Desks.finish(desk);
      if (stage != 3) {
        CHECK.same("nothing more is asked", desk.look(2), 3);
      }
    }
  }

  private static void joinOfNoSource() {
    QueryDesk desk = askedAnew();
    for (int sources = 0; sources <= 3; sources++) {
      int[] outside = {-1, sources, 3, LEAST, GREATEST};
      for (int source : outside) {
        CHECK.same("first " + source + " of " + sources, desk.join(source, 0, 0, 0), false);
        CHECK.same("other " + source + " of " + sources, desk.join(0, 0, source, 0), false);
      }
      desk.from(0);
    }
    CHECK.same("the last source", desk.join(2, 0, 0, 0), true);
    CHECK.same("as the other", desk.join(0, 0, 2, 0), true);
  }

  private static void joinOfNoColumn() {
    QueryDesk desk = threeTables();
    desk.from(2);
    desk.from(0);
    desk.from(1);
    int[] columns = {4, 1, 2};
    for (int source = 0; source < 3; source++) {
      int other = (source + 1) % 3;
      int[] outside = {-1, columns[source], 4, 5, LEAST, GREATEST};
      for (int column : outside) {
        CHECK.same("column " + column + " of source " + source, desk.join(source, column, other, 0), false);
        CHECK.same("column2 " + column + " of source " + source, desk.join(other, 0, source, column), false);
      }
      CHECK.same("the last columns", desk.join(source, columns[source] - 1, other, columns[other] - 1), true);
    }
  }

  private static void joinWithItself() {
    QueryDesk desk = threeTables();
    desk.from(2);
    desk.from(2);
    desk.from(2);
    for (int source = 0; source < 3; source++) {
      CHECK.same("one column", desk.join(source, 1, source, 1), false);
      CHECK.same("two columns", desk.join(source, 0, source, 1), false);
    }
    for (int i = 0; i < 3; i++) {
      CHECK.same("none came in", desk.join(0, 0, 1, 0), true);
    }
  }

  private static void joinOfOneTableTwice() {
    QueryDesk desk = Desks.of(new int[] {1, 2, 3}, new int[] {2, 3, 9});
    Desks.ask(desk, 0, 0);
    CHECK.same("two sources of one table", desk.join(0, 1, 1, 0), true);
    CHECK.sameText("equal columns", Desks.answersOfPlanned(desk, 2), "1,2 2,3");
    Desks.ask(desk, 0, 0, 0);
    CHECK.same("first", desk.join(0, 1, 1, 0), true);
    CHECK.same("second", desk.join(2, 0, 1, 1), true);
    CHECK.sameText("three sources", Desks.answersOfPlanned(desk, 3), "1,2,3");
  }

  private static void joinAFourthTime() {
    QueryDesk desk = threeTables();
    Desks.ask(desk, 0, 1, 2);
    CHECK.same("first", desk.join(0, 0, 1, 0), true);
    CHECK.same("second, the same", desk.join(0, 0, 1, 0), true);
    CHECK.same("third, turned round", desk.join(1, 0, 0, 0), true);
    CHECK.same("fourth", desk.join(1, 0, 2, 0), false);
    CHECK.same("fourth, the same", desk.join(0, 0, 1, 0), false);
    CHECK.sameText("three are asked", Desks.answersOfPlanned(desk, 3),
        "1,1,1 1,1,2 1,1,3 2,2,1 2,2,2 2,2,3 3,3,1 3,3,2 3,3,3");
  }

  private static void joinOfAPlannedQuestion() {
    for (int stage = 1; stage <= 3; stage++) {
      QueryDesk desk = threeTables();
      bringToStage(desk, stage);
      CHECK.same("at stage " + stage, desk.join(0, 0, 1, 2), false);
      CHECK.same("the stage stays", desk.look(0), stage);
      Desks.finish(desk);
      if (stage != 3) {
        CHECK.same("nothing more is asked", desk.look(2), 3);
      }
    }
  }

  private static void selectAddsAndTellsTheNumber() {
    QueryDesk desk = Desks.of(new int[] {1, 2}, new int[] {3, 4});
    desk.from(0);
    CHECK.same("first", desk.select(0, 1), 0);
    CHECK.same("second, the same", desk.select(0, 1), 1);
    CHECK.same("third", desk.select(0, 0), 2);
    CHECK.same("fourth", desk.select(0, 1), 3);
    CHECK.sameText("their values", Desks.answersOfPlanned(desk, 4), "3,3,1,3 4,4,2,4");
  }

  private static void selectOfNoSource() {
    QueryDesk desk = askedAnew();
    for (int sources = 0; sources <= 3; sources++) {
      int[] outside = {-1, sources, 3, LEAST, GREATEST};
      for (int source : outside) {
        CHECK.same("source " + source + " of " + sources, desk.select(source, 0), -1);
      }
      desk.from(0);
    }
    CHECK.same("the last source", desk.select(2, 0), 0);
  }

  private static void selectOfNoColumn() {
    QueryDesk desk = threeTables();
    desk.from(2);
    desk.from(0);
    desk.from(1);
    int[] columns = {4, 1, 2};
    for (int source = 0; source < 3; source++) {
      int[] outside = {-1, columns[source], 4, 5, LEAST, GREATEST};
      for (int column : outside) {
        CHECK.same("column " + column + " of source " + source, desk.select(source, column), -1);
      }
      CHECK.same("the last column", desk.select(source, columns[source] - 1), source);
    }
  }

  private static void selectAFifthTime() {
    QueryDesk desk = threeTables();
    desk.from(2);
    for (int i = 0; i < 4; i++) {
      CHECK.same("output", desk.select(0, i), i);
    }
    CHECK.same("a fifth", desk.select(0, 0), -1);
    CHECK.same("no output 4 for an order", desk.order(4, false), false);
    CHECK.sameText("four", Desks.answersOfPlanned(desk, 4), "1,1,4,1 2,2,5,2 3,3,6,3");
    CHECK.fails("no output 4", IndexOutOfBoundsException.class, () -> desk.answer(0, 4));
  }

  private static void selectOfAPlannedQuestion() {
    for (int stage = 1; stage <= 3; stage++) {
      QueryDesk desk = threeTables();
      bringToStage(desk, stage);
      CHECK.same("at stage " + stage, desk.select(1, 1), -1);
      CHECK.same("the stage stays", desk.look(0), stage);
      Desks.finish(desk);
      if (stage != 3) {
        CHECK.fails("no third output", IndexOutOfBoundsException.class, () -> desk.answer(0, 2));
      }
    }
  }

  private static void orderOfNoOutput() {
    QueryDesk desk = askedAnew();
    Desks.fill(desk, 0, new int[] {2, 3, 1});
    desk.from(0);
    for (int outputs = 0; outputs <= 4; outputs++) {
      int[] outside = {-1, outputs, 4, 5, LEAST, GREATEST};
      for (int output : outside) {
        CHECK.same("output " + output + " of " + outputs, desk.order(output, true), false);
      }
      desk.select(0, 0);
    }
    CHECK.sameText("no order came in", Desks.answersOfPlanned(desk, 1), "2 3 1");
    Desks.ask(desk, 0);
    CHECK.same("the first output", desk.order(0, false), true);
    for (int i = 1; i < 4; i++) {
      desk.select(0, 0);
    }
    CHECK.same("the last output", desk.order(3, false), true);
  }

  private static void orderIsSetAgain() {
    QueryDesk desk = Desks.of(new int[] {2, 3, 1}, new int[] {5, 4, 5});
    Desks.ask(desk, 0);
    desk.select(0, 1);
    CHECK.same("first", desk.order(0, true), true);
    CHECK.same("again, another output, rising", desk.order(1, false), true);
    CHECK.same("refused", desk.order(2, true), false);
    CHECK.sameText("the one set last holds", Desks.answersOfPlanned(desk, 2), "3,4 2,5 1,5");
    Desks.ask(desk, 0);
    desk.order(0, false);
    CHECK.same("the same output, falling", desk.order(0, true), true);
    CHECK.sameText("falling", Desks.answersOfPlanned(desk, 1), "3 2 1");
  }

  private static void orderOfAPlannedQuestion() {
    for (int stage = 1; stage <= 3; stage++) {
      QueryDesk desk = threeTables();
      bringToStage(desk, stage);
      CHECK.same("at stage " + stage, desk.order(0, true), false);
      CHECK.same("the stage stays", desk.look(0), stage);
      Desks.finish(desk);
      if (stage != 3) {
        CHECK.sameText("as found", Desks.answers(desk, 1), "1 2 3");
      }
    }
  }

  private static void limitOutside() {
    int[] outside = {0, 65, 66, -1, -64, LEAST, GREATEST};
    for (int n : outside) {
      QueryDesk desk = threeTables();
      Desks.ask(desk, 0);
      CHECK.same("limit " + n, desk.limit(n), false);
      CHECK.same("limit 2", desk.limit(2), true);
      CHECK.same("limit " + n, desk.limit(n), false);
      CHECK.sameText("2 holds", Desks.answersOfPlanned(desk, 1), "1 2");
    }
  }

  private static void limitInside() {
    int[] inside = {1, 2, 63, 64};
    for (int n : inside) {
      QueryDesk desk = Desks.of(Desks.turns(24, 24));
      Desks.ask(desk, 0, 0);
      CHECK.same("limit 3", desk.limit(3), true);
      CHECK.same("limit " + n, desk.limit(n), true);
      desk.plan();
      Desks.finish(desk);
      CHECK.same("so many answers", desk.look(2), n);
    }
  }

  private static void limitAtFirst() {
    for (int ordered = 0; ordered < 2; ordered++) {
      QueryDesk desk = Desks.of(Desks.turns(24, 24));
      Desks.ask(desk, 0, 0);
      if (ordered == 1) {
        desk.order(0, true);
      }
      desk.plan();
      Desks.finish(desk);
      CHECK.same("64 answers", desk.look(2), 64);
    }
  }

  private static void limitOfAPlannedQuestion() {
    for (int stage = 1; stage <= 3; stage++) {
      QueryDesk desk = threeTables();
      bringToStage(desk, stage);
      CHECK.same("at stage " + stage, desk.limit(1), false);
      CHECK.same("the stage stays", desk.look(0), stage);
      Desks.finish(desk);
      if (stage != 3) {
        CHECK.same("all answers", desk.look(2), 3);
      }
    }
  }
}
