import java.util.ArrayList;
import java.util.Arrays;
import java.util.List;

/**
 * Which answers a question has does not depend on its plan: they are those of all rows of the sources
 * taken together, so they are counted out here without any plan. How they are ordered is left to the
 * other tests.
 */
public final class CrossTest {
  private static final int RUNS = 4000;
  private static final int MOST_ANSWERS = 64;

  private final Check check = new Check("CrossTest");
  private long seed;
  private QueryDesk desk;
  private int[][][] tables;
  private int[] sources;
  private final List<int[]> conditions = new ArrayList<>();
  private final List<int[]> joins = new ArrayList<>();
  private final List<int[]> outputs = new ArrayList<>();
  private int indexed = 0;
  private int answered = 0;

  public static void main(String[] args) {
    CrossTest test = new CrossTest();
    for (int run = 0; run < RUNS; run++) {
      test.makeRun(run);
    }
    test.check.same("runs with answers are many", test.answered > RUNS / 4, true);
    test.check.same("ways by an index are many", test.indexed > RUNS / 4, true);
    test.check.end();
  }

  /** The numbers are not random: a run is told by its number. */
  private int pick(int n) {
    seed = seed * 6364136223846793005L + 1442695040888963407L;
    return (int) ((seed >>> 33) % n);
  }

  private void makeRun(int run) {
    seed = run * 104729L + 5;
    desk = new QueryDesk();
    makeTables(2 + pick(12));
    makeQuestion();
    desk.plan();
    for (int k = 0; k < sources.length; k++) {
      indexed += desk.explain(k, 1) > 0 ? 1 : 0;
    }
    Desks.finish(desk);
    List<String> due = new ArrayList<>();
    gather(new int[sources.length], 0, due);
    compare("run " + run, given(), due);
  }

  private void makeTables(int spread) {
    tables = new int[3][][];
    for (int table = 0; table < 3; table++) {
      tables[table] = new int[pick(25)][4];
      desk.create(table, 4);
      for (int[] row : tables[table]) {
        for (int column = 0; column < 4; column++) {
          row[column] = pick(spread);
        }
        desk.insert(table, row[0], row[1], row[2], row[3]);
      }
      for (int i = 0; i < 4; i++) {
        desk.index(table, pick(4), pick(2));
      }
    }
  }

  private void makeQuestion() {
    conditions.clear();
    joins.clear();
    outputs.clear();
    sources = new int[1 + pick(3)];
    for (int source = 0; source < sources.length; source++) {
      sources[source] = pick(3);
      desk.from(sources[source]);
    }
    for (int i = pick(5); i > 0; i--) {
      int[] condition = {pick(sources.length), pick(4), pick(4), pick(12)};
      conditions.add(condition);
      desk.where(condition[0], condition[1], condition[2], condition[3]);
    }
    for (int i = sources.length == 1 ? 0 : 1 + pick(3); i > 0; i--) {
      int source = pick(sources.length);
      int[] join = {source, pick(4), (source + 1 + pick(sources.length - 1)) % sources.length, pick(4)};
      joins.add(join);
      desk.join(join[0], join[1], join[2], join[3]);
    }
    for (int i = 1 + pick(4); i > 0; i--) {
      int[] output = {pick(sources.length), pick(4)};
      outputs.add(output);
      desk.select(output[0], output[1]);
    }
  }

  /** Puts together all rows of the sources and keeps the outputs of those that fulfil everything. */
  private void gather(int[] rows, int source, List<String> due) {
    if (source < sources.length) {
      for (int row = 0; row < tables[sources[source]].length; row++) {
        rows[source] = row;
        gather(rows, source + 1, due);
      }
    } else if (fulfils(rows)) {
      int[] values = new int[outputs.size()];
      for (int k = 0; k < values.length; k++) {
        values[k] = value(rows, outputs.get(k)[0], outputs.get(k)[1]);
      }
      due.add(Arrays.toString(values));
    }
  }

  private int value(int[] rows, int source, int column) {
    return tables[sources[source]][rows[source]][column];
  }

  private boolean fulfils(int[] rows) {
    for (int[] condition : conditions) {
      int difference = value(rows, condition[0], condition[1]) - condition[3];
      boolean[] holds = {difference == 0, difference < 0, difference > 0, difference != 0};
      if (!holds[condition[2]]) {
        return false;
      }
    }
    for (int[] join : joins) {
      if (value(rows, join[0], join[1]) != value(rows, join[2], join[3])) {
        return false;
      }
    }
    return true;
  }

  private List<String> given() {
    List<String> answers = new ArrayList<>();
    int count = desk.look(2);
    for (int number = 0; number < count; number++) {
      int[] values = new int[outputs.size()];
      for (int k = 0; k < values.length; k++) {
        values[k] = desk.answer(number, k);
      }
      answers.add(Arrays.toString(values));
    }
    return answers;
  }

  /** Of more answers than can be given, which ones are given depends on the plan; here any will do. */
  private void compare(String what, List<String> given, List<String> due) {
    check.same(what + ": answers", given.size(), Math.min(MOST_ANSWERS, due.size()));
    answered += due.isEmpty() ? 0 : 1;
    if (due.size() <= MOST_ANSWERS) {
      given.sort(null);
      due.sort(null);
      check.sameText(what + ": which answers", given.toString(), due.toString());
    } else {
      int strange = 0;
      for (String answer : given) {
        strange += due.remove(answer) ? 0 : 1;
      }
      check.same(what + ": answers that are none", strange, 0);
    }
  }
}
