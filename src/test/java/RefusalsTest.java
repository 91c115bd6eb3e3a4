import java.util.ArrayList;
import java.util.List;
import java.util.function.Function;

/**
 * "What throws or is refused changes nothing": of two desks brought to the same stage one gets a call
 * that is refused; from then on everything that can be seen of the two is the same.
 */
public final class RefusalsTest {
  private static final int STAGES = 10;
  private static final String[] STAGE_NAMES = {
    "new object", "tables alone", "question begun", "question with all its parts", "planned", "under way",
    "answered", "ended", "full table", "sixty put in",
  };
  /** What look(0) tells at each stage. */
  private static final int[] STATES = {0, 0, 0, 0, 1, 1, 2, 3, 1, 1};
  private static final String NO_SUCH = "java.util.NoSuchElementException";
  private static final String STATE = "java.lang.IllegalStateException";
  private static final String BOUNDS = "java.lang.IndexOutOfBoundsException";
  private static final Check CHECK = new Check("RefusalsTest");

  private record Refusal(String name, String due, Function<QueryDesk, Object> call) {}

  private final int stage;
  private final List<Refusal> refusals = new ArrayList<>();

  private RefusalsTest(int stage) {
    this.stage = stage;
  }

  public static void main(String[] args) {
    for (int stage = 0; stage < STAGES; stage++) {
      RefusalsTest test = new RefusalsTest(stage);
      test.gather();
      CHECK.sentence("Terms: What throws or is refused changes nothing (" + STAGE_NAMES[stage] + ")", test::check);
    }
    CHECK.end();
  }

  private void check() {
    CHECK.same("the state", atStage().look(0), STATES[stage]);
    String due = allOf(atStage());
    QueryDesk desk = atStage();
    for (Refusal refusal : refusals) {
      QueryDesk one = atStage();
      CHECK.sameText(refusal.name(), told(one, refusal.call()), refusal.due());
      CHECK.sameText("behind " + refusal.name(), allOf(one), due);
      told(desk, refusal.call());
    }
    CHECK.sameText("behind all of them", allOf(desk), due);
  }

  private static String told(QueryDesk desk, Function<QueryDesk, Object> call) {
    try {
      return String.valueOf(call.apply(desk));
    } catch (RuntimeException e) {
      return e.getClass().getName();
    }
  }

  /** Tables 0 and 1 with an index each, no table 2, and a question that goes as far as the stage says. */
  private QueryDesk atStage() {
    QueryDesk desk = new QueryDesk();
    if (stage == 0) {
      return desk;
    }
    int[] first = stage == 8 ? Desks.turns(24, 24) : new int[] {1, 2, 3};
    Desks.fill(desk, 0, first, first);
    for (int number = 3; stage == 9 && number < 60; number++) {
      desk.insert(0, number, number, 0, 0);
      desk.delete(0, number - 3);
    }
    Desks.fill(desk, 1, new int[] {1, 2, 2}, new int[] {2, 1, 9}, new int[] {7, 8, 9});
    desk.index(0, 0, 0);
    desk.index(1, 1, 1);
    if (stage >= 2) {
      askQuestion(desk);
    }
    if (stage >= 4) {
      desk.plan();
    }
    if (stage >= 5) {
      desk.run(stage == 6 ? 200 : 2);
    }
    if (stage == 7) {
      desk.update(1, 0, 0, 1);
    }
    return desk;
  }

  private void askQuestion(QueryDesk desk) {
    desk.from(1);
    desk.from(0);
    desk.where(0, 1, 1, 9);
    desk.join(0, 0, 1, 0);
    desk.select(0, 1);
    desk.select(1, 1);
    desk.order(1, true);
    desk.limit(5);
    if (stage == 3) {
      desk.from(0);
      desk.where(1, 0, 2, -5);
      desk.where(2, 0, 3, 3);
      desk.where(2, 1, 2, 0);
      desk.join(1, 1, 0, 0);
      desk.join(2, 0, 0, 0);
      desk.select(2, 0);
      desk.select(0, 2);
    }
  }

  private void refused(String name, String due, Function<QueryDesk, Object> call) {
    refusals.add(new Refusal(name, due, call));
  }

  private void gather() {
    gatherOfTables();
    gatherOfRows();
    gatherOfIndices();
    gatherOfParts();
    gatherOfPartsAtStage();
    gatherOfWork();
  }

  private void gatherOfTables() {
    int[][] creates = {{-1, 2}, {3, 2}, {0, 0}, {0, 5}, {1, -1}, {2, 0}, {2, 5}, {Integer.MIN_VALUE, 1}};
    for (int[] create : creates) {
      refused("create(" + create[0] + ", " + create[1] + ")", "false", desk -> desk.create(create[0], create[1]));
    }
  }

  private void gatherOfRows() {
    int[] noTables = {-1, 2, 3, Integer.MAX_VALUE};
    for (int table : noTables) {
      refused("insert into " + table, NO_SUCH, desk -> desk.insert(table, 1, 2, 3, 4));
      refused("delete of table " + table, NO_SUCH, desk -> delete(desk, table, 0));
      refused("update of table " + table, NO_SUCH, desk -> update(desk, table, 0, 0));
      refused("cell of table " + table, NO_SUCH, desk -> desk.cell(table, 0, 0));
    }
    int[] noRows = {-1, 24, 60, Integer.MIN_VALUE};
    for (int row : noRows) {
      refused("delete of row " + row, NO_SUCH, desk -> delete(desk, 0, row));
      refused("update of row " + row, NO_SUCH, desk -> update(desk, 0, row, 0));
      refused("cell of row " + row, NO_SUCH, desk -> desk.cell(0, row, 0));
    }
    int[] noColumns = {-1, 2, 4, Integer.MAX_VALUE};
    for (int column : noColumns) {
      refused("update of column " + column, NO_SUCH, desk -> update(desk, 0, 1, column));
      refused("cell of column " + column, NO_SUCH, desk -> desk.cell(0, 1, column));
    }
    if (stage >= 8) {
      refused("insert into a full table", STATE, desk -> desk.insert(0, 1, 2, 3, 4));
    }
    if (stage == 9) {
      refused("delete of a row taken out", NO_SUCH, desk -> delete(desk, 0, 0));
      refused("update of a row taken out", NO_SUCH, desk -> update(desk, 0, 0, 0));
    }
  }

  private static Object delete(QueryDesk desk, int table, int row) {
    desk.delete(table, row);
    return "done";
  }

  private static Object update(QueryDesk desk, int table, int row, int column) {
    desk.update(table, row, column, 99);
    return "done";
  }

  private void gatherOfIndices() {
    int[][] places = {{-1, 0, 0}, {2, 0, 0}, {3, 0, 0}, {0, -1, 0}, {0, 2, 1}, {0, 4, 0}, {0, 0, -1}, {0, 0, 2}};
    for (int[] place : places) {
      String name = "(" + place[0] + ", " + place[1] + ", " + place[2] + ")";
      refused("index" + name, "false", desk -> desk.index(place[0], place[1], place[2]));
      refused("drop" + name, "false", desk -> desk.drop(place[0], place[1], place[2]));
    }
    refused("index that is there", "false", desk -> desk.index(0, 0, 0));
    refused("drop of the other kind", "false", desk -> desk.drop(0, 0, 1));
    refused("drop of the other column", "false", desk -> desk.drop(1, 0, 1));
  }

  private void gatherOfParts() {
    int[] noTables = {-1, 2, 3};
    for (int table : noTables) {
      refused("from(" + table + ")", "-1", desk -> desk.from(table));
    }
    int[] outside = {-1, 4, Integer.MIN_VALUE, Integer.MAX_VALUE};
    for (int wrong : outside) {
      refused("where, source " + wrong, "false", desk -> desk.where(wrong, 0, 0, 1));
      refused("where, column " + wrong, "false", desk -> desk.where(0, wrong, 0, 1));
      refused("where, operator " + wrong, "false", desk -> desk.where(0, 0, wrong, 1));
      refused("join, source " + wrong, "false", desk -> desk.join(wrong, 0, 1, 0));
      refused("join, column " + wrong, "false", desk -> desk.join(0, wrong, 1, 0));
      refused("join, other " + wrong, "false", desk -> desk.join(0, 0, wrong, 0));
      refused("join, column2 " + wrong, "false", desk -> desk.join(0, 0, 1, wrong));
      refused("select, source " + wrong, "-1", desk -> desk.select(wrong, 0));
      refused("select, column " + wrong, "-1", desk -> desk.select(0, wrong));
      refused("order(" + wrong + ")", "false", desk -> desk.order(wrong, false));
    }
    refused("join with itself", "false", desk -> desk.join(0, 0, 0, 1));
    int[] noLimits = {0, 65, -1};
    for (int limit : noLimits) {
      refused("limit(" + limit + ")", "false", desk -> desk.limit(limit));
    }
  }

  private void gatherOfPartsAtStage() {
    boolean planned = STATES[stage] > 0;
    if (stage <= 1 || stage == 3 || planned) {
      refused("where", "false", desk -> desk.where(0, 0, 0, 77));
      refused("join", "false", desk -> desk.join(0, 2, 1, 0));
      refused("select", "-1", desk -> desk.select(0, 0));
    }
    if (stage == 3 || planned) {
      refused("from", "-1", desk -> desk.from(0));
    }
    if (stage <= 1 || planned) {
      refused("order", "false", desk -> desk.order(0, true));
      refused("plan", STATE, QueryDesk::plan);
    }
    if (planned) {
      refused("limit", "false", desk -> desk.limit(1));
    }
  }

  private void gatherOfWork() {
    boolean planned = STATES[stage] > 0;
    boolean answered = STATES[stage] == 2;
    int[][] noParts = {{-1, 0}, {3, 0}, {0, -1}, {0, 4}};
    for (int[] part : noParts) {
      refused("explain(" + part[0] + ", " + part[1] + ")", BOUNDS, desk -> desk.explain(part[0], part[1]));
    }
    int[][] noAnswers = {{-1, 0}, {5, 0}, {64, 0}, {0, -1}, {0, 2}, {0, 4}};
    for (int[] answer : noAnswers) {
      refused("answer(" + answer[0] + ", " + answer[1] + ")", answered ? BOUNDS : STATE,
          desk -> desk.answer(answer[0], answer[1]));
    }
    int[] noRuns = {0, 201, -1};
    for (int n : noRuns) {
      refused("run(" + n + ")", "-1", desk -> desk.run(n));
    }
    int[] noLooks = {-1, 6};
    for (int what : noLooks) {
      refused("look(" + what + ")", "-1", desk -> desk.look(what));
    }
    if (!planned) {
      refused("explain", BOUNDS, desk -> desk.explain(0, 0));
    }
    if (!answered) {
      refused("answer", STATE, desk -> desk.answer(0, 0));
    }
    if (STATES[stage] != 1) {
      refused("run", "-1", desk -> desk.run(1));
    }
  }

  /** Everything that can be seen of a desk, and what it does when the question is brought to its end. */
  private static String allOf(QueryDesk desk) {
    StringBuilder text = new StringBuilder();
    tellTables(desk, text);
    tellQuestion(desk, text);
    tellCall(desk, text, d -> d.from(0));
    tellCall(desk, text, d -> d.where(0, 0, 2, -1));
    tellCall(desk, text, d -> d.join(0, 0, 1, 0));
    tellCall(desk, text, d -> d.select(0, 0));
    tellCall(desk, text, QueryDesk::plan);
    tellCall(desk, text, d -> d.run(1));
    tellCall(desk, text, d -> d.run(200));
    tellQuestion(desk, text);
    for (int table = 0; table < 3; table++) {
      int t = table;
      for (int i = 0; i < 8; i++) {
        int column = i / 2;
        int kind = i % 2;
        tellCall(desk, text, d -> d.drop(t, column, kind));
      }
      tellCall(desk, text, d -> d.insert(t, 5, 5, 5, 5));
    }
    return text.toString();
  }

  private static void tellTables(QueryDesk desk, StringBuilder text) {
    int[] rows = {0, 1, 2, 3, 23, 57, 58, 59};
    for (int table = 0; table < 3; table++) {
      int t = table;
      for (int row : rows) {
        for (int column = 0; column < 3; column++) {
          int c = column;
          tellCall(desk, text, d -> d.cell(t, row, c));
        }
      }
    }
  }

  private static void tellQuestion(QueryDesk desk, StringBuilder text) {
    for (int what = 0; what < 6; what++) {
      int w = what;
      tellCall(desk, text, d -> d.look(w));
    }
    for (int k = 0; k < 3; k++) {
      for (int what = 0; what < 4; what++) {
        int source = k;
        int w = what;
        tellCall(desk, text, d -> d.explain(source, w));
      }
    }
    for (int number = 0; number < 6; number++) {
      for (int k = 0; k < 4; k++) {
        int n = number;
        int output = k;
        tellCall(desk, text, d -> d.answer(n, output));
      }
    }
  }

  private static void tellCall(QueryDesk desk, StringBuilder text, Function<QueryDesk, Object> call) {
    text.append(told(desk, call)).append(' ');
  }
}
