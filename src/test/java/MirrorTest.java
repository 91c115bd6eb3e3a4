import java.util.function.Supplier;

/** Long runs of calls, always the same ones, whose answers must be those of MirrorDesk. */
public final class MirrorTest {
  private static final int RUNS = 3000;
  private static final int CALLS = 512;
  private static final int[] FAR = {Integer.MIN_VALUE, Integer.MAX_VALUE, Integer.MIN_VALUE + 1, 0, 1 << 30, -1};

  private final Check check = new Check("MirrorTest");
  private long seed;
  private QueryDesk desk;
  private MirrorDesk mirror;
  private int spread;
  private int answered = 0;
  private int made = 0;

  public static void main(String[] args) {
    MirrorTest test = new MirrorTest();
    for (int run = 0; run < RUNS; run++) {
      test.makeRun(run);
    }
    test.check.same("runs reach answers with rows", test.answered > 1000, true);
    System.out.println(test.answered + " questions with answers");
    test.check.end();
  }

  /** The numbers are not random: a run is told by its number. */
  private int pick(int n) {
    seed = seed * 6364136223846793005L + 1442695040888963407L;
    return (int) ((seed >>> 33) % n);
  }

  private int value() {
    return spread == 0 ? FAR[pick(FAR.length)] : pick(spread) - spread / 4;
  }

  /** Mostly 0 .. n - 1, now and then just outside or far off. */
  private int near(int n) {
    int kind = pick(40);
    return kind == 0 ? -1 : kind == 1 ? n : kind == 2 ? FAR[pick(FAR.length)] : pick(n);
  }

  private void makeRun(int run) {
    seed = run * 7919L + 17;
    desk = new QueryDesk();
    mirror = new MirrorDesk();
    made = 0;
    int[] spreads = {0, 3, 8, 30, 1000};
    spread = spreads[run % spreads.length];
    int size = 1 + pick(24);
    for (int table = 0; table < 3; table++) {
      if (pick(12) > 0) {
        create(table, 1 + pick(4));
        int rows = pick(4) == 0 ? pick(4) : pick(size + 1);
        for (int i = 0; i < rows; i++) {
          insert(table);
        }
      }
    }
    while (made < CALLS) {
      if (pick(3) > 0) {
        wholeQuestion();
      } else {
        oneCall();
      }
    }
  }

  private void wholeQuestion() {
    int changes = pick(5);
    for (int i = 0; i < changes; i++) {
      oneChange();
    }
    same("ask", () -> {
      desk.ask();
      return "";
    }, () -> {
      mirror.ask();
      return "";
    });
    int sources = 1 + pick(3);
    for (int i = 0; i < sources; i++) {
      from();
    }
    int parts = pick(8);
    for (int i = 0; i < parts; i++) {
      int kind = pick(4);
      if (kind < 2) {
        where();
      } else if (kind == 2) {
        join();
      } else {
        orderOrLimit();
      }
    }
    int outputs = 1 + pick(4);
    for (int i = 0; i < outputs; i++) {
      select();
    }
    if (pick(2) == 0) {
      orderOrLimit();
    }
    plan();
    for (int k = 0; k < 3; k++) {
      for (int what = 0; what < 4; what++) {
        explain(k, what);
      }
    }
    for (int i = 0; i < 12 && mirror.look(0) == 1; i++) {
      run();
      look(1);
      look(2);
      if (pick(25) == 0) {
        oneCall();
      }
    }
    look(0);
    if (mirror.look(0) == 2 && mirror.look(2) > 0) {
      answered++;
    }
    for (int i = 0; i <= mirror.look(2) && i < 8; i++) {
      for (int k = 0; k < 4; k++) {
        answer(i, k);
      }
    }
    answer(mirror.look(2) - 1, 0);
  }

  private void oneCall() {
    switch (pick(8)) {
      case 0:
        look(pick(8) - 1);
        break;
      case 1:
        run();
        break;
      case 2:
        answer(near(3), near(2));
        break;
      case 3:
        explain(near(2), near(4));
        break;
      case 4:
        plan();
        break;
      case 5:
        where();
        join();
        select();
        from();
        break;
      case 6:
        orderOrLimit();
        break;
      default:
        oneChange();
    }
  }

  private void oneChange() {
    int kind = pick(40);
    if (kind < 12) {
      insert(near(3));
    } else if (kind < 18) {
      delete(near(3), pick(60));
    } else if (kind < 24) {
      update(near(3), pick(30), near(4), value());
    } else if (kind < 27) {
      cell(near(3), pick(30), near(4));
    } else if (kind < 36) {
      index(near(3), near(4), near(2));
    } else if (kind < 39) {
      drop(near(3), near(4), near(2));
    } else if (pick(4) == 0) {
      create(near(3), near(5));
    }
    look(3 + pick(3));
  }

  private void create(int table, int columns) {
    same("create", () -> desk.create(table, columns), () -> mirror.create(table, columns));
  }

  private void insert(int table) {
    int a = value();
    int b = value();
    int c = value();
    int d = value();
    same("insert", () -> desk.insert(table, a, b, c, d), () -> mirror.insert(table, a, b, c, d));
  }

  private void delete(int table, int row) {
    same("delete", () -> {
      desk.delete(table, row);
      return "";
    }, () -> {
      mirror.delete(table, row);
      return "";
    });
  }

  private void update(int table, int row, int column, int value) {
    same("update", () -> {
      desk.update(table, row, column, value);
      return "";
    }, () -> {
      mirror.update(table, row, column, value);
      return "";
    });
  }

  private void cell(int table, int row, int column) {
    same("cell", () -> desk.cell(table, row, column), () -> mirror.cell(table, row, column));
  }

  private void index(int table, int column, int kind) {
    same("index", () -> desk.index(table, column, kind), () -> mirror.index(table, column, kind));
  }

  private void drop(int table, int column, int kind) {
    same("drop", () -> desk.drop(table, column, kind), () -> mirror.drop(table, column, kind));
  }

  private void from() {
    int table = near(3);
    same("from", () -> desk.from(table), () -> mirror.from(table));
  }

  private void where() {
    int source = near(3);
    int column = near(3);
    int operator = near(4);
    int number = value();
    same("where", () -> desk.where(source, column, operator, number), () -> mirror.where(source, column, operator, number));
  }

  private void join() {
    int source = near(3);
    int column = near(3);
    int other = near(3);
    int column2 = near(3);
    same("join", () -> desk.join(source, column, other, column2), () -> mirror.join(source, column, other, column2));
  }

  private void select() {
    int source = near(3);
    int column = near(3);
    same("select", () -> desk.select(source, column), () -> mirror.select(source, column));
  }

  private void orderOrLimit() {
    int output = near(3);
    boolean falling = pick(2) == 0;
    int n = pick(3) == 0 ? 1 + pick(5) : near(66);
    if (pick(2) == 0) {
      same("order", () -> desk.order(output, falling), () -> mirror.order(output, falling));
    } else {
      same("limit", () -> desk.limit(n), () -> mirror.limit(n));
    }
  }

  private void plan() {
    same("plan", () -> Float.floatToIntBits(desk.plan()), () -> Float.floatToIntBits(mirror.plan()));
  }

  private void explain(int k, int what) {
    same("explain", () -> desk.explain(k, what), () -> mirror.explain(k, what));
  }

  private void run() {
    int n = pick(2) == 0 ? near(8) : pick(3) == 0 ? near(203) : 200;
    same("run " + n, () -> desk.run(n), () -> mirror.run(n));
  }

  private void look(int what) {
    same("look " + what, () -> desk.look(what), () -> mirror.look(what));
  }

  private void answer(int number, int k) {
    same("answer", () -> desk.answer(number, k), () -> mirror.answer(number, k));
  }

  /** Nothing is promised behind the last of the calls, so no call is made there. */
  private void same(String what, Supplier<Object> call, Supplier<Object> due) {
    if (made == CALLS) {
      return;
    }
    made++;
    check.sameText(what, told(call), told(due));
  }

  private static String told(Supplier<Object> call) {
    try {
      return String.valueOf(call.get());
    } catch (RuntimeException e) {
      return e.getClass().getName();
    }
  }
}
