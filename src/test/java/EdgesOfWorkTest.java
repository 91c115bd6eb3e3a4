import java.util.NoSuchElementException;

/** Promises 18 to 20 and WORKING OFF: each sentence that names a boundary has its own test. */
public final class EdgesOfWorkTest {
  private static final Class<NoSuchElementException> NO_SUCH = NoSuchElementException.class;
  private static final Class<IllegalStateException> STATE = IllegalStateException.class;
  private static final Class<IndexOutOfBoundsException> BOUNDS = IndexOutOfBoundsException.class;
  private static final int LEAST = Integer.MIN_VALUE;
  private static final int GREATEST = Integer.MAX_VALUE;
  private static final Check CHECK = new Check("EdgesOfWorkTest");

  public static void main(String[] args) {
    CHECK.sentence("18: Makes at most n steps: how many", EdgesOfWorkTest::runMakesAtMostSoMany);
    CHECK.sentence("18: -1 (refused) if n is not 1 .. 200", EdgesOfWorkTest::runRefusesNumbers);
    CHECK.sentence("18: or no question is under way", EdgesOfWorkTest::runWithNothingUnderWay);
    CHECK.sentence("18: When nothing is left to be read the question is answered, in the call that made the last step",
        EdgesOfWorkTest::lastStepAnswers);
    CHECK.sentence("18: in the call that made the last step (nothing on the ways behind it)",
        EdgesOfWorkTest::lastStepOnWaysThatLeadNowhere);
    CHECK.sentence("18: or the answers are enough", EdgesOfWorkTest::enoughAnswers);
    CHECK.sentence("18: or the answers are enough (and nothing is left)",
        EdgesOfWorkTest::enoughAnswersAtTheLastRow);
    CHECK.sentence("18: (of tables without rows in the first one, with 0 steps)",
        EdgesOfWorkTest::tablesWithoutRows);
    CHECK.sentence("18: When nothing is left to be read (not even at first)",
        EdgesOfWorkTest::waysWithoutRows);
    CHECK.sentence("Terms: for rows of the sources, one each, that fulfil all conditions and joins",
        EdgesOfWorkTest::noRowFulfilsAll);
    CHECK.sentence("Terms: without an ORDER the working ends when it has them",
        EdgesOfWorkTest::workingEndsAtTheLimit);
    CHECK.sentence("Terms: with one when it has 64", EdgesOfWorkTest::workingWithAnOrderEndsAtSixtyFour);
    CHECK.sentence("Terms: these are ordered and then cut", EdgesOfWorkTest::orderedAndThenCut);
    CHECK.sentence("Terms: only as many as the LIMIT says", EdgesOfWorkTest::fewerThanTheLimit);
    CHECK.sentence("Terms: or by the ORDER (those that are equal as the plan finds them)",
        EdgesOfWorkTest::equalOnesAsFound);
    CHECK.sentence("Terms: perhaps an ORDER by an output, rising or falling",
        EdgesOfWorkTest::orderOfFarNumbers);
    CHECK.sentence("Terms: A SCAN goes through all rows by their numbers", EdgesOfWorkTest::scanByNumbers);
    CHECK.sentence("Terms: a HASH way through the rows with the value, by their numbers",
        EdgesOfWorkTest::hashByNumbers);
    CHECK.sentence("Terms: an ORDERED one through the rows that fulfil its condition by value, of equal ones by number",
        EdgesOfWorkTest::orderedByValue);
    CHECK.sentence("Terms: by value, of equal ones by number (for each row of the sources before)",
        EdgesOfWorkTest::orderedByValueBehindOthers);
    CHECK.sentence("Terms: (The value of a join's way is that of the row of the source before.)",
        EdgesOfWorkTest::valueOfAJoinsWay);
    CHECK.sentence("Terms: READING a row is one STEP", EdgesOfWorkTest::readingIsOneStep);
    CHECK.sentence("Terms: then all conditions on it and all joins with sources before are tested",
        EdgesOfWorkTest::allConditionsAndJoinsAreTested);
    CHECK.sentence("Terms: Of the last source a row that passes is an answer",
        EdgesOfWorkTest::lastSourceGivesAnswers);
    CHECK.sentence("Terms: a question under way ends, without an answer, when a row or an index of any table is "
        + "put in, taken out or changed",
        EdgesOfWorkTest::changesEndAQuestion);
    CHECK.sentence("5: (also to what it is: that ends a question, too)",
        EdgesOfWorkTest::updateToTheSameEndsAQuestion);
    CHECK.sentence("Terms: What throws or is refused changes nothing (a question under way)",
        EdgesOfWorkTest::refusedChangesEndNoQuestion);
    CHECK.sentence("Terms: The plan is worked off with the rows as they are",
        EdgesOfWorkTest::readingEndsNoQuestion);
    CHECK.sentence("Terms: a question under way ends (not one that is answered, nor one that was not planned)",
        EdgesOfWorkTest::changesLeaveAnAnsweredQuestion);
    CHECK.sentence("19: 0 no question that was planned, 1 under way, 2 answered, 3 ended by a change (what = 0)",
        EdgesOfWorkTest::lookAtTheState);
    CHECK.sentence("19: the steps made (1)", EdgesOfWorkTest::lookAtTheSteps);
    CHECK.sentence("19: the answers found so far, of an answered question those that are given (2)",
        EdgesOfWorkTest::lookAtTheAnswers);
    CHECK.sentence("19: rows of a table (3, 4, 5 for 0, 1, 2; -1 without the table)",
        EdgesOfWorkTest::lookAtTheRows);
    CHECK.sentence("19: -1 for another what", EdgesOfWorkTest::lookAtAnotherWhat);
    CHECK.sentence("20: IllegalStateException: no question was answered; else",
        EdgesOfWorkTest::answerBeforeOneIsThere);
    CHECK.sentence("20: IndexOutOfBoundsException: there is no such answer",
        EdgesOfWorkTest::answerOfNoNumber);
    CHECK.sentence("20: or output", EdgesOfWorkTest::answerOfNoOutput);
    CHECK.sentence("20: there is no such answer (none is there)", EdgesOfWorkTest::answerOfNone);
    CHECK.sentence("An object is used for at most 512 calls after it has been made",
        EdgesOfWorkTest::fiveHundredAndTwelveCalls);
    CHECK.end();
  }

  /** 24 rows of two columns, the first all 0, the second 0 .. 23. */
  private static QueryDesk fullTable() {
    return Desks.of(new int[24], Desks.turns(24, 24));
  }

  private static void runMakesAtMostSoMany() {
    QueryDesk desk = fullTable();
    Desks.ask(desk, 0, 0);
    desk.join(0, 0, 1, 1);
    desk.plan();
    CHECK.same("one", desk.run(1), 1);
    CHECK.same("two", desk.run(2), 2);
    CHECK.same("199", desk.run(199), 199);
    CHECK.same("200", desk.run(200), 200);
    CHECK.same("steps", desk.look(1), 402);
    CHECK.same("under way", desk.look(0), 1);
    CHECK.same("198 are left", desk.run(200), 198);
    CHECK.same("24 + 24 * 24", desk.look(1), 600);
    CHECK.same("answered", desk.look(0), 2);
  }

  private static void runRefusesNumbers() {
    int[] outside = {0, 201, 202, -1, -200, LEAST, GREATEST};
    for (int n : outside) {
      QueryDesk desk = Desks.of(new int[] {1, 2, 3});
      desk.create(1, 1);
      Desks.ask(desk, 0);
      desk.plan();
      CHECK.same("n " + n, desk.run(n), -1);
      CHECK.same("no step", desk.look(1), 0);
      CHECK.same("goes on", desk.run(2), 2);
      CHECK.same("n " + n, desk.run(n), -1);
      CHECK.same("two steps", desk.look(1), 2);
      CHECK.same("under way", desk.look(0), 1);
      Desks.ask(desk, 1);
      desk.plan();
      CHECK.same("n " + n + " without rows", desk.run(n), -1);
      CHECK.same("under way", desk.look(0), 1);
    }
  }

  private static void runWithNothingUnderWay() {
    QueryDesk desk = new QueryDesk();
    CHECK.same("a new object", desk.run(1), -1);
    Desks.fill(desk, 0, new int[] {1, 2, 3});
    CHECK.same("an empty question", desk.run(1), -1);
    Desks.ask(desk, 0);
    CHECK.same("not planned", desk.run(1), -1);
    CHECK.same("no step", desk.look(1), 0);
    desk.plan();
    CHECK.same("planned", desk.run(3), 3);
    CHECK.same("answered", desk.run(1), -1);
    CHECK.same("three steps", desk.look(1), 3);
    Desks.ask(desk, 0);
    desk.plan();
    desk.run(1);
    desk.insert(0, 4, 0, 0, 0);
    CHECK.same("ended", desk.run(1), -1);
    CHECK.same("state", desk.look(0), 3);
    desk.ask();
    CHECK.same("a new question", desk.run(1), -1);
    Desks.ask(desk, 0);
    desk.plan();
    desk.create(1, 1);
    CHECK.same("emptied by create", desk.run(1), -1);
  }

  private static void lastStepAnswers() {
    for (int passing = 0; passing < 2; passing++) {
      QueryDesk desk = Desks.of(new int[] {1, 2, 3});
      Desks.ask(desk, 0);
      desk.where(0, 0, passing == 1 ? 2 : 1, 0);
      desk.plan();
      CHECK.same("all but the last", desk.run(2), 2);
      CHECK.same("under way", desk.look(0), 1);
      CHECK.same("the last", desk.run(1), 1);
      CHECK.same("answered", desk.look(0), 2);
      Desks.ask(desk, 0);
      desk.plan();
      CHECK.same("as many as there are", desk.run(3), 3);
      CHECK.same("answered", desk.look(0), 2);
      Desks.ask(desk, 0);
      desk.plan();
      CHECK.same("one more than there are", desk.run(4), 3);
      CHECK.same("answered", desk.look(0), 2);
    }
  }

  private static void lastStepOnWaysThatLeadNowhere() {
    for (int kind = 0; kind < 2; kind++) {
      QueryDesk desk = Desks.of(new int[] {1, 77});
      Desks.fill(desk, 1, Desks.turns(24, 24));
      desk.index(1, 0, kind);
      Desks.ask(desk, 0, 1);
      desk.join(0, 0, 1, 0);
      desk.plan();
      CHECK.sameText("the plan", Desks.plan(desk, 2), "0,0,-1,-1 1," + (1 + kind) + ",-1,0");
      CHECK.same("row 1, and the row on its way", desk.run(2), 2);
      CHECK.same("under way", desk.look(0), 1);
      CHECK.same("row 77, without a way", desk.run(1), 1);
      CHECK.same("answered", desk.look(0), 2);
      CHECK.sameText("the answer", Desks.answers(desk, 2), "1,1");
    }
  }

  private static void enoughAnswers() {
    QueryDesk desk = Desks.of(new int[] {5, 1, 5, 5, 5});
    Desks.ask(desk, 0);
    desk.where(0, 0, 0, 5);
    desk.limit(2);
    desk.plan();
    CHECK.same("one answer in two steps", desk.run(2), 2);
    CHECK.same("under way", desk.look(0), 1);
    CHECK.same("the second", desk.run(200), 1);
    CHECK.same("answered", desk.look(0), 2);
    CHECK.same("two", desk.look(2), 2);
    Desks.ask(desk, 0);
    desk.limit(1);
    desk.plan();
    CHECK.same("at the first step", desk.run(1), 1);
    CHECK.same("answered", desk.look(0), 2);
  }

  private static void enoughAnswersAtTheLastRow() {
    QueryDesk desk = Desks.of(new int[] {5, 6, 7});
    Desks.ask(desk, 0);
    desk.limit(3);
    desk.plan();
    CHECK.same("two", desk.run(2), 2);
    CHECK.same("under way", desk.look(0), 1);
    CHECK.same("three", desk.run(1), 1);
    CHECK.sameText("answered", Desks.answers(desk, 1), "5 6 7");
  }

  private static void tablesWithoutRows() {
    int[] runs = {1, 2, 200};
    int[][] tables = {{0}, {0, 0}, {0, 0, 0}, {0, 1}, {1, 0}, {1, 1, 0}, {1, 0, 1}};
    for (int n : runs) {
      for (int[] sources : tables) {
        QueryDesk desk = new QueryDesk();
        desk.create(0, 1);
        Desks.fill(desk, 1, new int[] {1, 2});
        Desks.ask(desk, sources);
        desk.plan();
        CHECK.same("not before it", desk.look(0), 1);
        CHECK.same("run " + n, desk.run(n), 0);
        CHECK.same("answered", desk.look(0), 2);
        CHECK.same("no steps", desk.look(1), 0);
        CHECK.same("no answers", desk.look(2), 0);
        CHECK.same("no second one", desk.run(n), -1);
        CHECK.fails("no answer", BOUNDS, () -> desk.answer(0, 0));
      }
    }
    QueryDesk desk = Desks.of(new int[] {4});
    desk.delete(0, 0);
    Desks.ask(desk, 0);
    desk.plan();
    CHECK.same("all taken out", desk.run(1), 0);
    CHECK.same("answered", desk.look(0), 2);
  }

  private static void waysWithoutRows() {
    for (int kind = 0; kind < 2; kind++) {
      QueryDesk desk = Desks.of(Desks.turns(9, 9));
      desk.index(0, 0, kind);
      Desks.ask(desk, 0);
      desk.where(0, 0, 0, 77);
      desk.plan();
      CHECK.same("the way", desk.explain(0, 1), 1 + kind);
      CHECK.same("no step", desk.run(1), 0);
      CHECK.same("answered", desk.look(0), 2);
    }
  }

  private static void noRowFulfilsAll() {
    QueryDesk desk = Desks.of(new int[] {1, 2}, new int[] {3, 4});
    Desks.ask(desk, 0, 0);
    desk.where(0, 0, 0, 1);
    desk.where(0, 1, 0, 4);
    CHECK.sameText("two conditions", Desks.answersOfPlanned(desk, 2), "");
    Desks.ask(desk, 0, 0);
    desk.join(0, 0, 1, 1);
    CHECK.sameText("a join", Desks.answersOfPlanned(desk, 2), "");
    Desks.ask(desk, 0, 0);
    CHECK.sameText("nothing to fulfil", Desks.answersOfPlanned(desk, 2), "1,1 1,2 2,1 2,2");
  }

  private static void workingEndsAtTheLimit() {
    int[] limits = {1, 24, 25, 63, 64};
    for (int n : limits) {
      QueryDesk desk = fullTable();
      Desks.ask(desk, 0, 0);
      desk.limit(n);
      desk.plan();
      Desks.finish(desk);
      CHECK.same("answers", desk.look(2), n);
      CHECK.same("steps", desk.look(1), n + (n + 23) / 24);
    }
  }

  private static void workingWithAnOrderEndsAtSixtyFour() {
    int[] limits = {1, 63, 64};
    for (int n : limits) {
      QueryDesk desk = fullTable();
      Desks.ask(desk, 0, 0);
      desk.order(0, false);
      desk.limit(n);
      desk.plan();
      CHECK.same("63 answers in 66 steps", desk.run(66), 66);
      CHECK.same("under way", desk.look(0), 1);
      CHECK.same("found so far", desk.look(2), 63);
      CHECK.same("the 64th", desk.run(200), 1);
      CHECK.same("answered", desk.look(0), 2);
      CHECK.same("those that are given", desk.look(2), n);
    }
  }

  private static void orderedAndThenCut() {
    QueryDesk desk = Desks.of(new int[] {3, 1, 4, 1, 5, 9, 2, 6});
    Desks.ask(desk, 0);
    desk.order(0, true);
    desk.limit(3);
    CHECK.sameText("the greatest", Desks.answersOfPlanned(desk, 1), "9 6 5");
    CHECK.same("all are read", desk.look(1), 8);
    Desks.ask(desk, 0);
    desk.order(0, false);
    desk.limit(1);
    CHECK.sameText("the least", Desks.answersOfPlanned(desk, 1), "1");
    desk = fullTable();
    Desks.ask(desk, 0, 0);
    desk.select(1, 1);
    desk.select(0, 1);
    desk.order(3, true);
    desk.limit(2);
    desk.plan();
    Desks.finish(desk);
    CHECK.sameText("what came behind the 64th is not ordered in", Desks.output(desk, 3), "2 2");
    CHECK.sameText("equal ones as found", Desks.output(desk, 2), "0 1");
  }

  private static void fewerThanTheLimit() {
    for (int ordered = 0; ordered < 2; ordered++) {
      for (int n = 1; n <= 4; n++) {
        QueryDesk desk = Desks.of(new int[] {1, 2, 3});
        Desks.ask(desk, 0);
        desk.limit(n);
        if (ordered == 1) {
          desk.order(0, false);
        }
        String[] due = {"1", "1 2", "1 2 3", "1 2 3"};
        CHECK.sameText("limit " + n, Desks.answersOfPlanned(desk, 1), due[n - 1]);
      }
    }
  }

  private static void equalOnesAsFound() {
    int[] values = {2, 1, 2, 1, 3, 2, 1};
    QueryDesk desk = Desks.of(Desks.turns(7, 7), values);
    Desks.ask(desk, 0);
    desk.select(0, 1);
    desk.order(1, false);
    CHECK.sameText("rising", Desks.answersOfPlanned(desk, 1), "1 3 6 0 2 5 4");
    Desks.ask(desk, 0);
    desk.select(0, 1);
    desk.order(1, true);
    CHECK.sameText("falling", Desks.answersOfPlanned(desk, 1), "4 0 2 5 1 3 6");
    Desks.fill(desk, 1, Desks.turns(7, 7), values, new int[] {6, 5, 4, 3, 2, 1, 0});
    desk.index(1, 2, 1);
    Desks.ask(desk, 1);
    desk.select(0, 1);
    desk.where(0, 2, 1, 4);
    desk.order(1, false);
    CHECK.sameText("found by an ORDERED way", Desks.answersOfPlanned(desk, 1), "6 3 5 4");
  }

  private static void orderOfFarNumbers() {
    QueryDesk desk = Desks.of(new int[] {1, LEAST, GREATEST, -1, 0});
    Desks.ask(desk, 0);
    desk.order(0, false);
    CHECK.sameText("rising", Desks.answersOfPlanned(desk, 1), "-2147483648 -1 0 1 2147483647");
    Desks.ask(desk, 0);
    desk.order(0, true);
    CHECK.sameText("falling", Desks.answersOfPlanned(desk, 1), "2147483647 1 0 -1 -2147483648");
  }

  private static void scanByNumbers() {
    QueryDesk desk = Desks.of(new int[] {9, 3, 7, 1, 8});
    desk.delete(0, 0);
    desk.delete(0, 2);
    desk.delete(0, 4);
    desk.insert(0, 2, 0, 0, 0);
    desk.insert(0, 6, 0, 0, 0);
    desk.update(0, 1, 0, 5);
    Desks.ask(desk, 0);
    CHECK.sameText("all", Desks.answersOfPlanned(desk, 1), "5 1 2 6");
    CHECK.same("four steps", desk.look(1), 4);
  }

  private static void hashByNumbers() {
    QueryDesk desk = Desks.of(Desks.turns(9, 9), new int[] {4, 1, 4, 2, 3, 4, 5, 6, 7});
    desk.index(0, 1, 0);
    desk.update(0, 8, 1, 4);
    desk.update(0, 0, 1, 8);
    desk.delete(0, 2);
    desk.insert(0, 9, 4, 0, 0);
    desk.update(0, 3, 1, 4);
    Desks.ask(desk, 0);
    desk.where(0, 1, 0, 4);
    desk.plan();
    CHECK.same("the way", desk.explain(0, 1), 1);
    CHECK.same("four rows", desk.run(200), 4);
    CHECK.sameText("by number", Desks.answers(desk, 1), "3 5 8 9");
  }

  private static void orderedByValue() {
    int[] values = {4, LEAST, 4, 6, -7, 4, 800, -7, 3, GREATEST};
    QueryDesk desk = Desks.of(Desks.turns(10, 10), values);
    desk.index(0, 1, 1);
    int[] operators = {1, 2, 0, 1, 2};
    int[] numbers = {6, 3, 4, LEAST, GREATEST};
    String[] due = {"1 4 7 8 0 2 5", "0 2 5 3 6 9", "0 2 5", "", ""};
    for (int i = 0; i < due.length; i++) {
      Desks.ask(desk, 0);
      desk.where(0, 1, operators[i], numbers[i]);
      desk.plan();
      CHECK.same("the way", desk.explain(0, 1), 2);
      CHECK.same("rows read", desk.run(200), due[i].isEmpty() ? 0 : due[i].split(" ").length);
      CHECK.sameText(operators[i] + " " + numbers[i], Desks.answers(desk, 1), due[i]);
    }
  }

  private static void orderedByValueBehindOthers() {
    int[] values = {4, 3, 9, 4, 1, 8, 3, 7};
    for (int before = 1; before <= 2; before++) {
      QueryDesk desk = Desks.of(new int[] {5, 6});
      Desks.fill(desk, 1, Desks.turns(8, 8), values);
      desk.index(1, 1, 1);
      desk.ask();
      for (int i = 0; i < before; i++) {
        desk.from(0);
        desk.where(i, 0, 0, 5);
      }
      desk.from(1);
      desk.where(before, 1, 1, 5);
      desk.select(before, 0);
      desk.plan();
      CHECK.same("it comes last", desk.explain(before, 0), before);
      CHECK.same("its way", desk.explain(before, 1), 2);
      Desks.finish(desk);
      CHECK.sameText("behind " + before, Desks.answers(desk, 1), "4 1 6 0 3");
    }
    QueryDesk desk = Desks.of(new int[] {5, 6});
    Desks.fill(desk, 1, Desks.turns(8, 8), values);
    desk.index(1, 1, 1);
    Desks.ask(desk, 0, 1);
    desk.where(1, 1, 2, 4);
    desk.plan();
    CHECK.sameText("the plan", Desks.plan(desk, 2), "0,0,-1,-1 1,2,0,-1");
    Desks.finish(desk);
    CHECK.sameText("twice", Desks.answers(desk, 2), "5,7 5,5 5,2 6,7 6,5 6,2");
  }

  private static void valueOfAJoinsWay() {
    for (int kind = 0; kind < 2; kind++) {
      for (int turned = 0; turned < 2; turned++) {
        QueryDesk desk = Desks.of(new int[] {7, 7, 7}, new int[] {2, LEAST, 0});
        int[] values = {0, 1, 2, 3, LEAST, GREATEST, 0, 2, 7};
        Desks.fill(desk, 1, values, Desks.turns(9, 9));
        desk.index(1, 0, kind);
        desk.from(0);
        desk.from(1);
        if (turned == 0) {
          desk.join(0, 1, 1, 0);
        } else {
          desk.join(1, 0, 0, 1);
        }
        desk.select(1, 1);
        desk.plan();
        CHECK.sameText("the plan", Desks.plan(desk, 2), "0,0,-1,-1 1," + (1 + kind) + ",-1,0");
        CHECK.same("rows read", desk.run(200), 3 + 5);
        CHECK.sameText("by value, by number", Desks.output(desk, 0), "2 7 4 0 6");
      }
    }
  }

  private static void readingIsOneStep() {
    QueryDesk desk = Desks.of(new int[] {1, 2, 3});
    Desks.ask(desk, 0, 0);
    desk.where(0, 0, 0, 2);
    desk.where(1, 0, 0, 3);
    desk.plan();
    int[] answersBehind = {0, 0, 0, 0, 1, 1};
    for (int i = 0; i < 6; i++) {
      CHECK.same("under way", desk.look(0), 1);
      CHECK.same("one step", desk.run(1), 1);
      CHECK.same("steps", desk.look(1), i + 1);
      CHECK.same("answers", desk.look(2), answersBehind[i]);
    }
    CHECK.same("answered", desk.look(0), 2);
  }

  private static void allConditionsAndJoinsAreTested() {
    QueryDesk desk = Desks.of(Desks.turns(6, 6), new int[] {0, 0, 0, 1, 1, 1});
    Desks.ask(desk, 0, 0, 0);
    desk.join(0, 0, 1, 0);
    desk.join(1, 1, 2, 1);
    desk.join(2, 0, 0, 1);
    CHECK.sameText("all three joins", Desks.answersOfPlanned(desk, 3), "0,0,0 1,1,0 2,2,0");
    Desks.ask(desk, 0, 0);
    desk.where(0, 0, 2, 1);
    desk.where(0, 0, 1, 5);
    desk.where(0, 0, 3, 3);
    desk.where(1, 0, 0, 5);
    desk.order(0, false);
    CHECK.sameText("all four conditions", Desks.answersOfPlanned(desk, 2), "2,5 4,5");
    desk.index(0, 0, 0);
    Desks.ask(desk, 0);
    desk.where(0, 0, 0, 4);
    desk.where(0, 1, 0, 0);
    desk.plan();
    CHECK.same("the row on a way", desk.run(200), 1);
    CHECK.same("fails at another condition", desk.look(2), 0);
  }

  private static void lastSourceGivesAnswers() {
    QueryDesk desk = Desks.of(new int[] {1, 2});
    for (int sources = 1; sources <= 3; sources++) {
      Desks.ask(desk, new int[sources]);
      desk.plan();
      for (int step = 1; step < sources; step++) {
        desk.run(1);
        CHECK.same("none before the last source", desk.look(2), 0);
      }
      desk.run(1);
      CHECK.same("the first", desk.look(2), 1);
      Desks.finish(desk);
      CHECK.same("all", desk.look(2), 1 << sources);
    }
  }

  /** A question about table 0, and about table 1 too; tables 1 and 2 have rows and an index as well. */
  private static QueryDesk underWay(int steps) {
    QueryDesk desk = Desks.of(new int[] {1, 2, 3});
    Desks.fill(desk, 1, new int[] {4, 5});
    Desks.fill(desk, 2, new int[] {6, 7});
    for (int table = 0; table < 3; table++) {
      desk.index(table, 0, 0);
    }
    Desks.ask(desk, 0, 1);
    desk.plan();
    if (steps > 0) {
      desk.run(steps);
    }
    return desk;
  }

  private static void makeChange(QueryDesk desk, int table, int change) {
    switch (change) {
      case 0:
        desk.insert(table, 9, 0, 0, 0);
        break;
      case 1:
        desk.delete(table, 1);
        break;
      case 2:
        desk.update(table, 1, 0, 9);
        break;
      case 3:
        desk.index(table, 0, 1);
        break;
      default:
        desk.drop(table, 0, 0);
    }
  }

  private static void changesEndAQuestion() {
    int[] steps = {0, 1, 7};
    for (int made : steps) {
      for (int table = 0; table < 3; table++) {
        for (int change = 0; change < 5; change++) {
          QueryDesk desk = underWay(made);
          CHECK.same("under way", desk.look(0), 1);
          makeChange(desk, table, change);
          CHECK.same("change " + change + " of table " + table, desk.look(0), 3);
          CHECK.fails("no answer", STATE, () -> desk.answer(0, 0));
          CHECK.same("nothing to run", desk.run(200), -1);
          CHECK.same("still ended", desk.look(0), 3);
        }
      }
    }
  }

  private static void updateToTheSameEndsAQuestion() {
    for (int table = 0; table < 3; table++) {
      QueryDesk desk = underWay(1);
      desk.update(table, 1, 0, desk.cell(table, 1, 0));
      CHECK.same("table " + table, desk.look(0), 3);
    }
  }

  private static void refusedChangesEndNoQuestion() {
    QueryDesk desk = underWay(2);
    CHECK.fails("insert", NO_SUCH, () -> desk.insert(3, 1, 1, 1, 1));
    CHECK.fails("delete", NO_SUCH, () -> desk.delete(0, 3));
    CHECK.fails("update of no row", NO_SUCH, () -> desk.update(0, 3, 0, 1));
    CHECK.fails("update of no column", NO_SUCH, () -> desk.update(0, 0, 1, 1));
    CHECK.same("index that is there", desk.index(0, 0, 0), false);
    CHECK.same("drop of none", desk.drop(0, 0, 1), false);
    CHECK.same("create", desk.create(0, 5), false);
    CHECK.same("under way", desk.look(0), 1);
    CHECK.same("two steps", desk.look(1), 2);
    Desks.finish(desk);
    CHECK.sameText("the answers", Desks.answers(desk, 2), "1,4 2,4 3,4 1,5 2,5 3,5");
    QueryDesk full = Desks.of(Desks.turns(24, 24));
    Desks.ask(full, 0);
    full.plan();
    CHECK.fails("insert into a full table", STATE, () -> full.insert(0, 1, 1, 1, 1));
    CHECK.same("under way", full.look(0), 1);
  }

  private static void readingEndsNoQuestion() {
    QueryDesk desk = underWay(2);
    desk.cell(0, 0, 0);
    desk.look(0);
    desk.explain(0, 0);
    CHECK.fails("answer", STATE, () -> desk.answer(0, 0));
    CHECK.same("under way", desk.look(0), 1);
    Desks.finish(desk);
    CHECK.same("answered", desk.look(0), 2);
  }

  private static void changesLeaveAnAnsweredQuestion() {
    for (int change = 0; change < 5; change++) {
      QueryDesk desk = underWay(200);
      makeChange(desk, 0, change);
      CHECK.same("answered, change " + change, desk.look(0), 2);
      CHECK.sameText("its answers", Desks.answers(desk, 2), "1,4 2,4 3,4 1,5 2,5 3,5");
      Desks.ask(desk, 1);
      makeChange(desk, 1, change);
      CHECK.same("not planned", desk.look(0), 0);
      desk.plan();
      CHECK.same("under way", desk.look(0), 1);
      String[] due = {"4 5 9", "4", "4 9", "4 5", "4 5"};
      Desks.finish(desk);
      CHECK.sameText("with the rows of its time", Desks.answers(desk, 1), due[change]);
    }
  }

  private static void lookAtTheState() {
    QueryDesk desk = new QueryDesk();
    CHECK.same("a new object", desk.look(0), 0);
    Desks.fill(desk, 0, new int[] {1, 2});
    Desks.ask(desk, 0);
    CHECK.same("not planned", desk.look(0), 0);
    desk.plan();
    CHECK.same("planned", desk.look(0), 1);
    desk.run(1);
    CHECK.same("a step", desk.look(0), 1);
    desk.run(1);
    CHECK.same("the last step", desk.look(0), 2);
    Desks.ask(desk, 0);
    desk.plan();
    desk.delete(0, 0);
    CHECK.same("ended", desk.look(0), 3);
    desk.delete(0, 1);
    CHECK.same("ended, changed again", desk.look(0), 3);
    desk.ask();
    CHECK.same("asked", desk.look(0), 0);
  }

  private static void lookAtTheSteps() {
    QueryDesk desk = new QueryDesk();
    CHECK.same("a new object", desk.look(1), 0);
    Desks.fill(desk, 0, new int[] {1, 2, 3});
    for (int i = 0; i < 2; i++) {
      Desks.ask(desk, 0);
      CHECK.same("not planned", desk.look(1), 0);
      desk.plan();
      CHECK.same("planned", desk.look(1), 0);
      desk.run(2);
      CHECK.same("two", desk.look(1), 2);
      desk.run(200);
      CHECK.same("answered", desk.look(1), 3);
    }
  }

  private static void lookAtTheAnswers() {
    QueryDesk desk = new QueryDesk();
    CHECK.same("a new object", desk.look(2), 0);
    Desks.fill(desk, 0, new int[] {1, 2, 3, 4});
    for (int i = 0; i < 2; i++) {
      Desks.ask(desk, 0);
      CHECK.same("not planned", desk.look(2), 0);
      desk.order(0, true);
      desk.limit(2);
      desk.plan();
      CHECK.same("planned", desk.look(2), 0);
      desk.run(3);
      CHECK.same("found so far, more than the limit", desk.look(2), 3);
      desk.run(1);
      CHECK.same("given", desk.look(2), 2);
    }
  }

  private static void lookAtTheRows() {
    for (int table = 0; table < 3; table++) {
      QueryDesk desk = new QueryDesk();
      desk.create(table, 1);
      for (int other = 0; other < 3; other++) {
        CHECK.same("table " + other, desk.look(3 + other), other == table ? 0 : -1);
      }
      for (int i = 0; i < 24; i++) {
        desk.insert(table, i, 0, 0, 0);
        CHECK.same("put in", desk.look(3 + table), i + 1);
      }
      desk.delete(table, 7);
      CHECK.same("taken out", desk.look(3 + table), 23);
    }
  }

  private static void lookAtAnotherWhat() {
    QueryDesk desk = underWay(1);
    int[] outside = {-1, 6, 7, -2, LEAST, GREATEST};
    for (int what : outside) {
      CHECK.same("what " + what, desk.look(what), -1);
      CHECK.same("of a new object", new QueryDesk().look(what), -1);
    }
  }

  private static void answerBeforeOneIsThere() {
    QueryDesk desk = new QueryDesk();
    checkNotAnswered("a new object", desk);
    Desks.fill(desk, 0, new int[] {1, 2, 3});
    Desks.ask(desk, 0);
    checkNotAnswered("not planned", desk);
    desk.plan();
    checkNotAnswered("planned", desk);
    desk.run(2);
    checkNotAnswered("under way", desk);
    desk.run(1);
    CHECK.same("answered", desk.answer(2, 0), 3);
    desk.ask();
    checkNotAnswered("a new question", desk);
    Desks.ask(desk, 0);
    desk.plan();
    desk.run(2);
    desk.delete(0, 0);
    checkNotAnswered("ended", desk);
  }

  private static void checkNotAnswered(String what, QueryDesk desk) {
    int[] numbers = {0, -1, 3, 64, LEAST, GREATEST};
    for (int number : numbers) {
      CHECK.fails(what + ", number " + number, STATE, () -> desk.answer(number, 0));
      CHECK.fails(what + ", output " + number, STATE, () -> desk.answer(0, number));
    }
  }

  private static void answerOfNoNumber() {
    for (int n = 1; n <= 4; n++) {
      for (int ordered = 0; ordered < 2; ordered++) {
        QueryDesk desk = Desks.of(new int[] {1, 2, 3});
        Desks.ask(desk, 0);
        desk.limit(n);
        if (ordered == 1) {
          desk.order(0, false);
        }
        desk.plan();
        Desks.finish(desk);
        int given = Math.min(n, 3);
        CHECK.same("the last", desk.answer(given - 1, 0), given);
        int[] outside = {-1, given, 4, 63, 64, LEAST, GREATEST};
        for (int number : outside) {
          CHECK.fails("number " + number + " of " + given, BOUNDS, () -> desk.answer(number, 0));
        }
      }
    }
    QueryDesk desk = fullTable();
    Desks.ask(desk, 0, 0);
    desk.plan();
    Desks.finish(desk);
    CHECK.same("the 64th", desk.answer(63, 0), 0);
    CHECK.fails("the 65th", BOUNDS, () -> desk.answer(64, 0));
    Desks.ask(desk, 0, 0);
    desk.limit(2);
    desk.plan();
    Desks.finish(desk);
    CHECK.fails("one of the question before", BOUNDS, () -> desk.answer(2, 0));
  }

  private static void answerOfNoOutput() {
    for (int outputs = 1; outputs <= 4; outputs++) {
      QueryDesk desk = Desks.of(new int[] {1, 2, 3});
      desk.from(0);
      for (int i = 0; i < outputs; i++) {
        desk.select(0, 0);
      }
      desk.plan();
      Desks.finish(desk);
      CHECK.same("the last", desk.answer(1, outputs - 1), 2);
      int[] outside = {-1, outputs, 4, 5, LEAST, GREATEST};
      for (int k : outside) {
        CHECK.fails("output " + k + " of " + outputs, BOUNDS, () -> desk.answer(0, k));
        CHECK.fails("output " + k + " of " + outputs, BOUNDS, () -> desk.answer(2, k));
      }
    }
  }

  private static void answerOfNone() {
    QueryDesk desk = Desks.of(new int[] {1, 2, 3});
    Desks.ask(desk, 0);
    desk.where(0, 0, 0, 4);
    desk.plan();
    Desks.finish(desk);
    CHECK.same("answered", desk.look(0), 2);
    int[] numbers = {0, -1, 1, 64};
    for (int number : numbers) {
      CHECK.fails("number " + number, BOUNDS, () -> desk.answer(number, 0));
    }
  }

  private static void fiveHundredAndTwelveCalls() {
    QueryDesk desk = new QueryDesk();
    desk.create(0, 1);
    desk.insert(0, 6, 0, 0, 0);
    desk.insert(0, 7, 0, 0, 0);
    for (int calls = 3; calls <= 512 - 7; calls += 7) {
      desk.ask();
      desk.from(0);
      desk.select(0, 0);
      CHECK.sameFloat("cost", desk.plan(), 2f);
      CHECK.same("steps", desk.run(2), 2);
      CHECK.same("first", desk.answer(0, 0), 6);
      CHECK.same("second", desk.answer(1, 0), 7);
    }
  }
}
