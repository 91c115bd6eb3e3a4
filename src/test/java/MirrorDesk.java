import java.util.ArrayList;
import java.util.Comparator;
import java.util.HashSet;
import java.util.List;
import java.util.Map;
import java.util.NoSuchElementException;
import java.util.Set;
import java.util.TreeMap;
import java.util.stream.Collectors;

/**
 * The document's promises once more, written another way: planning works off the whole plan ahead, and
 * run only goes along the steps.
 */
final class MirrorDesk {
  private static final class Sheet {
    final int columns;
    final TreeMap<Integer, int[]> rows = new TreeMap<>();
    final Set<String> indices = new HashSet<>();
    int next = 0;

    Sheet(int columns) {
      this.columns = columns;
    }

    boolean column(int c) {
      return 0 <= c && c < columns;
    }

    long values(int c) {
      return rows.values().stream().map(row -> row[c]).distinct().count();
    }

    long least(int c) {
      return rows.values().stream().mapToLong(row -> row[c]).min().getAsLong();
    }

    long greatest(int c) {
      return rows.values().stream().mapToLong(row -> row[c]).max().getAsLong();
    }
  }

  private record Where(int source, int column, int operator, int number) {
    boolean holds(int value) {
      return operator == 0 ? value == number : operator == 1 ? value < number : operator == 2 ? value > number : value != number;
    }
  }

  private record Way(int source, int kind, int condition, int join, float rows) {}

  private record Scheme(float cost, List<Way> ways) {}

  private final Sheet[] sheets = new Sheet[3];
  private List<Sheet> sources;
  private List<Where> conditions;
  private List<int[]> joins;
  private List<int[]> outputs;
  private int orderBy;
  private boolean falling;
  private int limit;
  private int state;
  private Scheme scheme;
  /** An answer for each step, null for a step without one. */
  private List<int[]> script;
  private int made;

  MirrorDesk() {
    ask();
  }

  boolean create(int table, int columns) {
    if (table < 0 || table > 2 || columns < 1 || columns > 4) {
      return false;
    }
    sheets[table] = new Sheet(columns);
    ask();
    return true;
  }

  int insert(int table, int a, int b, int c, int d) {
    Sheet sheet = sheet(table);
    if (sheet.rows.size() == 24 || sheet.next == 60) {
      throw new IllegalStateException();
    }
    sheet.rows.put(sheet.next, new int[] {a, b, c, d});
    changed();
    return sheet.next++;
  }

  void delete(int table, int row) {
    if (sheet(table).rows.remove(row) == null) {
      throw new NoSuchElementException();
    }
    changed();
  }

  void update(int table, int row, int column, int value) {
    cell(table, row, column);
    sheets[table].rows.get(row)[column] = value;
    changed();
  }

  int cell(int table, int row, int column) {
    Sheet sheet = sheet(table);
    if (!sheet.rows.containsKey(row) || !sheet.column(column)) {
      throw new NoSuchElementException();
    }
    return sheet.rows.get(row)[column];
  }

  boolean index(int table, int column, int kind) {
    boolean done = there(table) && sheets[table].column(column) && (kind == 0 || kind == 1)
        && sheets[table].indices.add(column + "/" + kind);
    if (done) {
      changed();
    }
    return done;
  }

  boolean drop(int table, int column, int kind) {
    boolean done = there(table) && sheets[table].indices.remove(column + "/" + kind);
    if (done) {
      changed();
    }
    return done;
  }

  void ask() {
    sources = new ArrayList<>();
    conditions = new ArrayList<>();
    joins = new ArrayList<>();
    outputs = new ArrayList<>();
    orderBy = -1;
    limit = 64;
    state = 0;
    scheme = null;
    script = new ArrayList<>();
    made = 0;
  }

  int from(int table) {
    if (!there(table) || sources.size() == 3 || state != 0) {
      return -1;
    }
    sources.add(sheets[table]);
    return sources.size() - 1;
  }

  boolean where(int source, int column, int operator, int number) {
    return known(source, column) && 0 <= operator && operator <= 3 && conditions.size() < 4 && state == 0
        && conditions.add(new Where(source, column, operator, number));
  }

  boolean join(int source, int column, int other, int column2) {
    return known(source, column) && known(other, column2) && source != other && joins.size() < 3 && state == 0
        && joins.add(new int[] {source, column, other, column2});
  }

  int select(int source, int column) {
    if (!known(source, column) || outputs.size() == 4 || state != 0) {
      return -1;
    }
    outputs.add(new int[] {source, column});
    return outputs.size() - 1;
  }

  boolean order(int output, boolean fall) {
    if (output < 0 || output >= outputs.size() || state != 0) {
      return false;
    }
    orderBy = output;
    falling = fall;
    return true;
  }

  boolean limit(int n) {
    if (n < 1 || n > 64 || state != 0) {
      return false;
    }
    limit = n;
    return true;
  }

  float plan() {
    if (sources.isEmpty() || outputs.isEmpty() || state != 0) {
      throw new IllegalStateException();
    }
    for (List<Integer> order : orders(sources.size())) {
      Scheme tried = scheme(order);
      if (scheme == null || tried.cost() < scheme.cost()) {
        scheme = tried;
      }
    }
    work(new TreeMap<>());
    state = 1;
    return scheme.cost();
  }

  int explain(int k, int what) {
    if (scheme == null || k < 0 || k >= sources.size() || what < 0 || what > 3) {
      throw new IndexOutOfBoundsException();
    }
    Way way = scheme.ways().get(k);
    return new int[] {way.source(), way.kind(), way.condition(), way.join()}[what];
  }

  int run(int n) {
    if (n < 1 || n > 200 || state != 1) {
      return -1;
    }
    int before = made;
    made = Math.min(script.size(), made + n);
    if (made == script.size()) {
      state = 2;
    }
    return made - before;
  }

  int look(int what) {
    if (what >= 3 && what <= 5) {
      return sheets[what - 3] == null ? -1 : sheets[what - 3].rows.size();
    }
    return what == 0 ? state : what == 1 ? made : what == 2 ? (state == 2 ? given() : found()).size() : -1;
  }

  int answer(int number, int k) {
    if (state != 2) {
      throw new IllegalStateException();
    }
    if (number < 0 || number >= given().size() || k < 0 || k >= outputs.size()) {
      throw new IndexOutOfBoundsException();
    }
    return given().get(number)[k];
  }

  private boolean there(int table) {
    return 0 <= table && table < 3 && sheets[table] != null;
  }

  private Sheet sheet(int table) {
    if (!there(table)) {
      throw new NoSuchElementException();
    }
    return sheets[table];
  }

  private boolean known(int source, int column) {
    return 0 <= source && source < sources.size() && sources.get(source).column(column);
  }

  private void changed() {
    state = state == 1 ? 3 : state;
  }

  private List<int[]> found() {
    return script.subList(0, made).stream().filter(row -> row != null).collect(Collectors.toList());
  }

  private List<int[]> given() {
    List<int[]> rows = found();
    if (orderBy >= 0) {
      Comparator<int[]> rising = Comparator.comparingInt(row -> row[orderBy]);
      rows.sort(falling ? rising.reversed() : rising);
    }
    return rows.subList(0, Math.min(limit, rows.size()));
  }

  private static List<List<Integer>> orders(int n) {
    if (n == 1) {
      return List.of(List.of(0));
    }
    if (n == 2) {
      return List.of(List.of(0, 1), List.of(1, 0));
    }
    return List.of(List.of(0, 1, 2), List.of(0, 2, 1), List.of(1, 0, 2), List.of(1, 2, 0), List.of(2, 0, 1), List.of(2, 1, 0));
  }

  private float share(Sheet sheet, int column, int operator, int number) {
    if (sheet.rows.isEmpty()) {
      return 0f;
    }
    float equal = 1f / sheet.values(column);
    if (operator == 0 || operator == 3) {
      return operator == 0 ? equal : 1f - equal;
    }
    long part = operator == 1 ? number - sheet.least(column) : sheet.greatest(column) - number;
    float share = (float) part / (float) (sheet.greatest(column) - sheet.least(column) + 1);
    return Math.max(0f, Math.min(1f, share));
  }

  /** The column of a join on the side of a source, if its other side is among those before; else -1. */
  private int joined(int[] join, int source, List<Integer> before) {
    if (join[0] == source && before.contains(join[2])) {
      return join[1];
    }
    return join[2] == source && before.contains(join[0]) ? join[3] : -1;
  }

  private Scheme scheme(List<Integer> order) {
    float count = 1f;
    float cost = 0f;
    List<Way> taken = new ArrayList<>();
    for (int k = 0; k < order.size(); k++) {
      int source = order.get(k);
      List<Integer> before = order.subList(0, k);
      Sheet sheet = sources.get(source);
      int n = sheet.rows.size();
      List<Way> ways = new ArrayList<>();
      List<Float> shares = new ArrayList<>();
      ways.add(new Way(source, 0, -1, -1, n));
      for (int i = 0; i < conditions.size(); i++) {
        Where where = conditions.get(i);
        if (where.source() == source) {
          float share = share(sheet, where.column(), where.operator(), where.number());
          shares.add(share);
          if (where.operator() == 0 && sheet.indices.contains(where.column() + "/0")) {
            ways.add(new Way(source, 1, i, -1, 1f + n * share));
          }
          if (where.operator() != 3 && sheet.indices.contains(where.column() + "/1")) {
            ways.add(new Way(source, 2, i, -1, 2f + n * share));
          }
        }
      }
      for (int i = 0; i < joins.size(); i++) {
        int column = joined(joins.get(i), source, before);
        if (column >= 0) {
          float share = share(sheet, column, 0, 0);
          shares.add(share);
          if (sheet.indices.contains(column + "/0")) {
            ways.add(new Way(source, 1, -1, i, 1f + n * share));
          }
          if (sheet.indices.contains(column + "/1")) {
            ways.add(new Way(source, 2, -1, i, 2f + n * share));
          }
        }
      }
      Way best = ways.stream().reduce((one, other) -> other.rows() < one.rows() ? other : one).get();
      taken.add(best);
      cost += count * best.rows();
      count *= n;
      for (float share : shares) {
        count *= share;
      }
    }
    return new Scheme(cost, taken);
  }

  /** Works off the sources behind those that have rows; true when the answers are enough. */
  private boolean work(Map<Integer, int[]> rows) {
    Way way = scheme.ways().get(rows.size());
    List<Integer> before = new ArrayList<>(rows.keySet());
    List<int[]> ahead = rowsOn(way, rows, before);
    for (int[] row : ahead) {
      boolean passes = true;
      for (Where where : conditions) {
        passes &= where.source() != way.source() || where.holds(row[where.column()]);
      }
      Map<Integer, int[]> with = new TreeMap<>(rows);
      with.put(way.source(), row);
      for (int[] join : joins) {
        passes &= joined(join, way.source(), before) < 0 || with.get(join[0])[join[1]] == with.get(join[2])[join[3]];
      }
      boolean last = with.size() == sources.size();
      script.add(passes && last ? outputs.stream().mapToInt(out -> with.get(out[0])[out[1]]).toArray() : null);
      if (passes && last && script.stream().filter(step -> step != null).count() == (orderBy < 0 ? limit : 64)) {
        return true;
      }
      if (passes && !last && work(with)) {
        return true;
      }
    }
    return false;
  }

  private List<int[]> rowsOn(Way way, Map<Integer, int[]> rows, List<Integer> before) {
    List<int[]> all = new ArrayList<>(sources.get(way.source()).rows.values());
    if (way.condition() >= 0) {
      Where where = conditions.get(way.condition());
      all.removeIf(row -> !where.holds(row[where.column()]));
      if (way.kind() == 2) {
        all.sort(Comparator.comparingInt(row -> row[where.column()]));
      }
    } else if (way.join() >= 0) {
      int[] join = joins.get(way.join());
      int column = joined(join, way.source(), before);
      int value = join[0] == way.source() ? rows.get(join[2])[join[3]] : rows.get(join[0])[join[1]];
      all.removeIf(row -> row[column] != value);
    }
    return all;
  }
}
