/** Tables, questions and readings that several tests use. */
final class Desks {
  private Desks() {}

  /** A desk whose table 0 has the given columns. */
  static QueryDesk of(int[]... columns) {
    QueryDesk desk = new QueryDesk();
    fill(desk, 0, columns);
    return desk;
  }

  /** A table with as many rows as columns[0] has numbers; columns[c] are those of column c. */
  static void fill(QueryDesk desk, int table, int[]... columns) {
    desk.create(table, columns.length);
    for (int i = 0; i < columns[0].length; i++) {
      int b = columns.length > 1 ? columns[1][i] : 0;
      int c = columns.length > 2 ? columns[2][i] : 0;
      int d = columns.length > 3 ? columns[3][i] : 0;
      desk.insert(table, columns[0][i], b, c, d);
    }
  }

  /** n numbers: 0 .. different - 1 in turn. */
  static int[] turns(int n, int different) {
    int[] values = new int[n];
    for (int i = 0; i < n; i++) {
      values[i] = i % different;
    }
    return values;
  }

  /** A new question: a source for each of the tables, and column 0 of each source as an output. */
  static void ask(QueryDesk desk, int... tables) {
    desk.ask();
    for (int table : tables) {
      desk.from(table);
    }
    for (int source = 0; source < tables.length; source++) {
      desk.select(source, 0);
    }
  }

  /** For each source of the plan what explain tells: source, way, condition, join. */
  static String plan(QueryDesk desk, int sources) {
    StringBuilder text = new StringBuilder();
    for (int k = 0; k < sources; k++) {
      text.append(k == 0 ? "" : " ");
      for (int what = 0; what < 4; what++) {
        text.append(what == 0 ? "" : ",").append(desk.explain(k, what));
      }
    }
    return text.toString();
  }

  /** Runs a planned question to its end; a broken one that never ends is left under way. */
  static void finish(QueryDesk desk) {
    for (int i = 0; i < 100 && desk.look(0) == 1; i++) {
      desk.run(200);
    }
  }

  /** Output k of all answers. */
  static String output(QueryDesk desk, int k) {
    StringBuilder text = new StringBuilder();
    for (int i = 0; i < desk.look(2); i++) {
      text.append(i == 0 ? "" : " ").append(desk.answer(i, k));
    }
    return text.toString();
  }

  /** The first outputs of all answers of an answered question. */
  static String answers(QueryDesk desk, int outputs) {
    if (desk.look(0) != 2) {
      return "not answered";
    }
    StringBuilder text = new StringBuilder();
    for (int i = 0; i < desk.look(2); i++) {
      text.append(i == 0 ? "" : " ");
      for (int k = 0; k < outputs; k++) {
        text.append(k == 0 ? "" : ",").append(desk.answer(i, k));
      }
    }
    return text.toString();
  }

  /** Plans a question, runs it to its end and tells the first outputs of its answers. */
  static String answersOfPlanned(QueryDesk desk, int outputs) {
    desk.plan();
    finish(desk);
    return answers(desk, outputs);
  }
}
