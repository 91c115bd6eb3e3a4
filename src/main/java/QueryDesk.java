import java.util.NoSuchElementException;

/** A small engine for questions about tables of numbers, planned by cost and worked off row by row. */
public final class QueryDesk {
  private static final int TABLES = 3;
  private static final int MOST_STEPS_A_RUN = 200;

  private static final int UNPLANNED = 0;
  private static final int UNDER_WAY = 1;
  private static final int ANSWERED = 2;
  private static final int ENDED = 3;

  private static final int EQUAL = 0;
  private static final int LESS = 1;
  private static final int GREATER = 2;
  private static final int UNEQUAL = 3;

  private static final int HASH = 0;
  private static final int ORDERED = 1;

  private static final int SCAN_WAY = 0;
  private static final int HASH_WAY = 1;
  private static final int ORDERED_WAY = 2;

  private static final int NONE = -1;

  private final Table[] tables;
  private final Question question;
  private final Plan chosen;
  private final Work work;
  private int state;

  public QueryDesk() {
    tables = new Table[TABLES];
    for (int t = 0; t < TABLES; t++) {
      tables[t] = new Table();
    }
    question = new Question();
    chosen = new Plan();
    work = new Work();
    state = UNPLANNED;
  }

  public boolean create(int table, int columns) {
    if (table < 0 || table >= TABLES || columns < 1 || columns > Table.MOST_COLUMNS) {
      return false;
    }
    tables[table].makeAnew(columns);
    beginQuestion();
    return true;
  }

  public int insert(int table, int a, int b, int c, int d)
      throws NoSuchElementException, IllegalStateException {
    if (!hasTable(table)) {
      throw new NoSuchElementException("no such table");
    }
    if (tables[table].isFull()) {
      throw new IllegalStateException("the table takes no more rows");
    }
    endQuestion();
    return tables[table].add(a, b, c, d);
  }

  public void delete(int table, int row) throws NoSuchElementException {
    if (!hasRow(table, row)) {
      throw new NoSuchElementException("no such table or row");
    }
    endQuestion();
    tables[table].remove(tables[table].placeOf(row));
  }

  public void update(int table, int row, int column, int value) throws NoSuchElementException {
    if (!hasRow(table, row) || !hasColumn(table, column)) {
      throw new NoSuchElementException("no such table, row or column");
    }
    endQuestion();
    tables[table].put(tables[table].placeOf(row), column, value);
  }

  public int cell(int table, int row, int column) throws NoSuchElementException {
    if (!hasRow(table, row) || !hasColumn(table, column)) {
      throw new NoSuchElementException("no such table, row or column");
    }
    return tables[table].value(tables[table].placeOf(row), column);
  }

  public boolean index(int table, int column, int kind) {
    if (!hasColumn(table, column) || !isKind(kind) || tables[table].hasIndex(column, kind)) {
      return false;
    }
    endQuestion();
    tables[table].setIndex(column, kind, true);
    return true;
  }

  public boolean drop(int table, int column, int kind) {
    if (!hasColumn(table, column) || !isKind(kind) || !tables[table].hasIndex(column, kind)) {
      return false;
    }
    endQuestion();
    tables[table].setIndex(column, kind, false);
    return true;
  }

  public void ask() {
    beginQuestion();
  }

  public int from(int table) {
    if (state != UNPLANNED || !hasTable(table) || question.sources >= Question.MOST_SOURCES) {
      return NONE;
    }
    return question.addSource(tables[table]);
  }

  public boolean where(int source, int column, int operator, int number) {
    if (state != UNPLANNED || !question.hasColumn(source, column)
        || operator < EQUAL || operator > UNEQUAL
        || question.conditionCount >= Question.MOST_CONDITIONS) {
      return false;
    }
    question.addCondition(source, column, operator, number);
    return true;
  }

  public boolean join(int source, int column, int other, int column2) {
    if (state != UNPLANNED || !question.hasColumn(source, column)
        || !question.hasColumn(other, column2) || source == other
        || question.joinCount >= Question.MOST_JOINS) {
      return false;
    }
    question.addJoin(source, column, other, column2);
    return true;
  }

  public int select(int source, int column) {
    if (state != UNPLANNED || !question.hasColumn(source, column)
        || question.outputCount >= Question.MOST_OUTPUTS) {
      return NONE;
    }
    return question.addOutput(source, column);
  }

  public boolean order(int output, boolean falling) {
    if (state != UNPLANNED || output < 0 || output >= question.outputCount) {
      return false;
    }
    question.orderOutput = output;
    question.falling = falling;
    return true;
  }

  public boolean limit(int n) {
    if (state != UNPLANNED || n < 1 || n > Question.MOST_ANSWERS) {
      return false;
    }
    question.limit = n;
    return true;
  }

  public float plan() throws IllegalStateException {
    if (state != UNPLANNED || question.sources == 0 || question.outputCount == 0) {
      throw new IllegalStateException("nothing that can be planned");
    }
    float cost = chosen.choose(question);
    work.begin(question, chosen);
    state = UNDER_WAY;
    return cost;
  }

  public int explain(int k, int what) throws IndexOutOfBoundsException {
    if (state == UNPLANNED || k < 0 || k >= question.sources || what < 0 || what > 3) {
      throw new IndexOutOfBoundsException("no such part of a plan");
    }
    switch (what) {
      case 0:
        return chosen.order[k];
      case 1:
        return chosen.ways[k];
      case 2:
        return chosen.wayConditions[k];
      default:
        return chosen.wayJoins[k];
    }
  }

  public int run(int n) {
    if (n < 1 || n > MOST_STEPS_A_RUN || state != UNDER_WAY) {
      return NONE;
    }
    int made = 0;
    while (made < n && !work.isDone(question)) {
      work.makeStep(question, chosen);
      made++;
    }
    if (work.isDone(question)) {
      state = ANSWERED;
    }
    return made;
  }

  public int look(int what) {
    if (what < 0 || what >= 3 + TABLES) {
      return NONE;
    }
    switch (what) {
      case 0:
        return state;
      case 1:
        return work.steps;
      case 2:
        return state == ANSWERED ? givenAnswers() : work.answers;
      default:
        return hasTable(what - 3) ? tables[what - 3].rows : NONE;
    }
  }

  public int answer(int number, int k) throws IllegalStateException, IndexOutOfBoundsException {
    if (state != ANSWERED) {
      throw new IllegalStateException("no question was answered");
    }
    if (number < 0 || number >= givenAnswers() || k < 0 || k >= question.outputCount) {
      throw new IndexOutOfBoundsException("no such answer or output");
    }
    return work.valueOf(number, k);
  }

  private boolean hasTable(int table) {
    return table >= 0 && table < TABLES && tables[table].columns > 0;
  }

  private boolean hasRow(int table, int row) {
    return hasTable(table) && tables[table].placeOf(row) != NONE;
  }

  private boolean hasColumn(int table, int column) {
    return hasTable(table) && tables[table].hasColumn(column);
  }

  private static boolean isKind(int kind) {
    return kind == HASH || kind == ORDERED;
  }

  private void beginQuestion() {
    question.clear();
    work.clear();
    state = UNPLANNED;
  }

  /** Only a question under way is touched by a change: one that is answered keeps its answers. */
  private void endQuestion() {
    if (state == UNDER_WAY) {
      state = ENDED;
    }
  }

  private int givenAnswers() {
    return Math.min(work.answers, question.limit);
  }

  /** A table; its rows stand side by side, by their numbers, so a row's place is not its number. */
  private static final class Table {
    static final int MOST_COLUMNS = 4;
    static final int MOST_ROWS = 24;
    static final int MOST_NUMBERS = 60;
    static final int KINDS = 2;

    final int[] numbers;
    final int[] cells;
    /** A row is read by its values alone, so an index is no more than the right to a way. */
    final boolean[] indices;
    /** 0 as long as there is no such table. */
    int columns;
    int rows;
    int numbersGiven;

    Table() {
      numbers = new int[MOST_ROWS];
      cells = new int[MOST_ROWS * MOST_COLUMNS];
      indices = new boolean[MOST_COLUMNS * KINDS];
      columns = 0;
      rows = 0;
      numbersGiven = 0;
    }

    void makeAnew(int newColumns) {
      columns = newColumns;
      rows = 0;
      numbersGiven = 0;
      for (int i = 0; i < MOST_COLUMNS * KINDS; i++) {
        indices[i] = false;
      }
    }

    boolean isFull() {
      return rows >= MOST_ROWS || numbersGiven >= MOST_NUMBERS;
    }

    int add(int a, int b, int c, int d) {
      int start = rows * MOST_COLUMNS;
      cells[start] = a;
      cells[start + 1] = b;
      cells[start + 2] = c;
      cells[start + 3] = d;
      int number = numbersGiven;
      numbers[rows] = number;
      rows++;
      numbersGiven++;
      return number;
    }

    void remove(int place) {
      int behind = rows - place - 1;
      System.arraycopy(numbers, place + 1, numbers, place, behind);
      System.arraycopy(cells, (place + 1) * MOST_COLUMNS, cells, place * MOST_COLUMNS,
          behind * MOST_COLUMNS);
      rows--;
    }

    int placeOf(int number) {
      for (int place = 0; place < rows; place++) {
        if (numbers[place] == number) {
          return place;
        }
      }
      return NONE;
    }

    boolean hasColumn(int column) {
      return column >= 0 && column < columns;
    }

    int value(int place, int column) {
      return cells[place * MOST_COLUMNS + column];
    }

    void put(int place, int column, int value) {
      cells[place * MOST_COLUMNS + column] = value;
    }

    boolean hasIndex(int column, int kind) {
      return indices[column * KINDS + kind];
    }

    void setIndex(int column, int kind, boolean present) {
      indices[column * KINDS + kind] = present;
    }

    int differentValues(int column) {
      int different = 0;
      for (int place = 0; place < rows; place++) {
        if (!standsBefore(place, column)) {
          different++;
        }
      }
      return different;
    }

    private boolean standsBefore(int place, int column) {
      int value = value(place, column);
      for (int before = 0; before < place; before++) {
        if (value(before, column) == value) {
          return true;
        }
      }
      return false;
    }

    int least(int column) {
      int least = value(0, column);
      for (int place = 1; place < rows; place++) {
        least = Math.min(least, value(place, column));
      }
      return least;
    }

    int greatest(int column) {
      int greatest = value(0, column);
      for (int place = 1; place < rows; place++) {
        greatest = Math.max(greatest, value(place, column));
      }
      return greatest;
    }
  }

  /** A condition: a source's column against a number. */
  private static final class Condition {
    int source;
    int column;
    int operator;
    int number;

    boolean holds(int value) {
      switch (operator) {
        case EQUAL:
          return value == number;
        case LESS:
          return value < number;
        case GREATER:
          return value > number;
        default:
          return value != number;
      }
    }
  }

  /** A join: the columns of two different sources are equal. */
  private static final class Join {
    int first;
    int firstColumn;
    int second;
    int secondColumn;

    boolean ties(int source) {
      return first == source || second == source;
    }

    int partnerOf(int source) {
      return first == source ? second : first;
    }

    int columnOf(int source) {
      return first == source ? firstColumn : secondColumn;
    }
  }

  /** An output: a source's column. */
  private static final class Output {
    int source;
    int column;
  }

  /** What is asked; its parts are made once and filled again for each new question. */
  private static final class Question {
    static final int MOST_SOURCES = 3;
    static final int MOST_CONDITIONS = 4;
    static final int MOST_JOINS = 3;
    static final int MOST_OUTPUTS = 4;
    static final int MOST_ANSWERS = 64;

    final Table[] tables;
    final Condition[] conditions;
    final Join[] joins;
    final Output[] outputs;
    int sources;
    int conditionCount;
    int joinCount;
    int outputCount;
    /** NONE without an ORDER. */
    int orderOutput;
    boolean falling;
    int limit;

    Question() {
      tables = new Table[MOST_SOURCES];
      conditions = new Condition[MOST_CONDITIONS];
      for (int i = 0; i < MOST_CONDITIONS; i++) {
        conditions[i] = new Condition();
      }
      joins = new Join[MOST_JOINS];
      for (int i = 0; i < MOST_JOINS; i++) {
        joins[i] = new Join();
      }
      outputs = new Output[MOST_OUTPUTS];
      for (int i = 0; i < MOST_OUTPUTS; i++) {
        outputs[i] = new Output();
      }
      orderOutput = NONE;
      limit = MOST_ANSWERS;
    }

    void clear() {
      sources = 0;
      conditionCount = 0;
      joinCount = 0;
      outputCount = 0;
      orderOutput = NONE;
      falling = false;
      limit = MOST_ANSWERS;
    }

    boolean hasColumn(int source, int column) {
      return source >= 0 && source < sources && tables[source].hasColumn(column);
    }

    int addSource(Table table) {
      int number = sources;
      tables[number] = table;
      sources++;
      return number;
    }

    void addCondition(int source, int column, int operator, int number) {
      Condition condition = conditions[conditionCount];
      condition.source = source;
      condition.column = column;
      condition.operator = operator;
      condition.number = number;
      conditionCount++;
    }

    void addJoin(int source, int column, int other, int column2) {
      Join join = joins[joinCount];
      join.first = source;
      join.firstColumn = column;
      join.second = other;
      join.secondColumn = column2;
      joinCount++;
    }

    int addOutput(int source, int column) {
      int number = outputCount;
      outputs[number].source = source;
      outputs[number].column = column;
      outputCount++;
      return number;
    }

    boolean isOrdered() {
      return orderOutput != NONE;
    }

    /** How many answers end the working: with an ORDER the LIMIT only cuts afterwards. */
    int enoughAnswers() {
      return isOrdered() ? MOST_ANSWERS : limit;
    }
  }

  /** The order in which the sources are read and the way of reading each. */
  private static final class Plan {
    private static final int[] ORDERS_OF_ONE = {0};
    private static final int[] ORDERS_OF_TWO = {0, 1, 1, 0};
    private static final int[] ORDERS_OF_THREE =
        {0, 1, 2, 0, 2, 1, 1, 0, 2, 1, 2, 0, 2, 0, 1, 2, 1, 0};

    /** The SHAREs do not depend on the order, so they are measured once for all orders. */
    final float[] conditionShares;
    final float[] firstShares;
    final float[] secondShares;
    final int[] order;
    final int[] ways;
    final int[] wayConditions;
    final int[] wayJoins;
    float fewestRows;

    Plan() {
      conditionShares = new float[Question.MOST_CONDITIONS];
      firstShares = new float[Question.MOST_JOINS];
      secondShares = new float[Question.MOST_JOINS];
      order = new int[Question.MOST_SOURCES];
      ways = new int[Question.MOST_SOURCES];
      wayConditions = new int[Question.MOST_SOURCES];
      wayJoins = new int[Question.MOST_SOURCES];
    }

    /** Finds the cheapest order and leaves the plan at it; the answer is its COST. */
    float choose(Question question) {
      measureShares(question);
      int[] orders = ordersOf(question.sources);
      int best = 0;
      float leastCost = tryOrder(question, orders, 0);
      for (int i = 1; i < orderCountOf(question.sources); i++) {
        float cost = tryOrder(question, orders, i);
        if (cost < leastCost) {
          best = i;
          leastCost = cost;
        }
      }
      return tryOrder(question, orders, best);
    }

    /** Whether a join asks something of the k-th source in the order, with one before it. */
    boolean tiesBack(Join join, int k) {
      return join.ties(order[k]) && isBefore(join.partnerOf(order[k]), k);
    }

    private boolean isBefore(int source, int k) {
      for (int i = 0; i < k; i++) {
        if (order[i] == source) {
          return true;
        }
      }
      return false;
    }

    private static int[] ordersOf(int sources) {
      if (sources == 1) {
        return ORDERS_OF_ONE;
      }
      return sources == 2 ? ORDERS_OF_TWO : ORDERS_OF_THREE;
    }

    private static int orderCountOf(int sources) {
      return sources == 3 ? 6 : sources;
    }

    private void measureShares(Question question) {
      for (int i = 0; i < question.conditionCount; i++) {
        Condition condition = question.conditions[i];
        conditionShares[i] = shareOf(condition, question.tables[condition.source]);
      }
      for (int i = 0; i < question.joinCount; i++) {
        Join join = question.joins[i];
        firstShares[i] = shareOfOneValue(question.tables[join.first], join.firstColumn);
        secondShares[i] = shareOfOneValue(question.tables[join.second], join.secondColumn);
      }
    }

    private static float shareOf(Condition condition, Table table) {
      if (table.rows == 0) {
        return 0f;
      }
      int column = condition.column;
      switch (condition.operator) {
        case EQUAL:
          return shareOfOneValue(table, column);
        case LESS:
          return shareOfSpan((long) condition.number - table.least(column), table, column);
        case GREATER:
          return shareOfSpan((long) table.greatest(column) - condition.number, table, column);
        default:
          return 1f - shareOfOneValue(table, column);
      }
    }

    private static float shareOfOneValue(Table table, int column) {
      return table.rows == 0 ? 0f : 1f / (float) table.differentValues(column);
    }

    private static float shareOfSpan(long span, Table table, int column) {
      long whole = (long) table.greatest(column) - table.least(column) + 1L;
      float share = (float) span / (float) whole;
      if (share < 0f) {
        return 0f;
      }
      return share > 1f ? 1f : share;
    }

    private float joinShare(Join join, int number, int source) {
      return join.first == source ? firstShares[number] : secondShares[number];
    }

    private float tryOrder(Question question, int[] orders, int number) {
      float count = 1f;
      float cost = 0f;
      for (int k = 0; k < question.sources; k++) {
        order[k] = orders[number * question.sources + k];
        takeBestWay(question, k);
        cost = cost + count * fewestRows;
        count = countBehind(question, k, count);
      }
      return cost;
    }

    private float countBehind(Question question, int k, float countBefore) {
      int source = order[k];
      float count = countBefore * (float) question.tables[source].rows;
      for (int i = 0; i < question.conditionCount; i++) {
        if (question.conditions[i].source == source) {
          count = count * conditionShares[i];
        }
      }
      for (int i = 0; i < question.joinCount; i++) {
        if (tiesBack(question.joins[i], k)) {
          count = count * joinShare(question.joins[i], i, source);
        }
      }
      return count;
    }

    private void takeBestWay(Question question, int k) {
      takeWay(k, SCAN_WAY, NONE, NONE);
      fewestRows = (float) question.tables[order[k]].rows;
      for (int i = 0; i < question.conditionCount; i++) {
        if (question.conditions[i].source == order[k]) {
          considerCondition(question, k, i);
        }
      }
      for (int i = 0; i < question.joinCount; i++) {
        if (tiesBack(question.joins[i], k)) {
          considerJoin(question, k, i);
        }
      }
    }

    private void considerCondition(Question question, int k, int number) {
      Condition condition = question.conditions[number];
      Table table = question.tables[order[k]];
      float matching = (float) table.rows * conditionShares[number];
      if (condition.operator == EQUAL && table.hasIndex(condition.column, HASH)) {
        considerWay(1f + matching, k, HASH_WAY, number, NONE);
      }
      if (condition.operator != UNEQUAL && table.hasIndex(condition.column, ORDERED)) {
        considerWay(2f + matching, k, ORDERED_WAY, number, NONE);
      }
    }

    private void considerJoin(Question question, int k, int number) {
      Join join = question.joins[number];
      Table table = question.tables[order[k]];
      int column = join.columnOf(order[k]);
      float matching = (float) table.rows * joinShare(join, number, order[k]);
      if (table.hasIndex(column, HASH)) {
        considerWay(1f + matching, k, HASH_WAY, NONE, number);
      }
      if (table.hasIndex(column, ORDERED)) {
        considerWay(2f + matching, k, ORDERED_WAY, NONE, number);
      }
    }

    private void considerWay(float rows, int k, int way, int condition, int join) {
      if (rows < fewestRows) {
        fewestRows = rows;
        takeWay(k, way, condition, join);
      }
    }

    private void takeWay(int k, int way, int condition, int join) {
      ways[k] = way;
      wayConditions[k] = condition;
      wayJoins[k] = join;
    }
  }

  /** The working off of a plan: how far it is, and the answers found. */
  private static final class Work {
    /** For the k-th source of the plan, from k * MOST_ROWS on: the places that its way leads to. */
    final int[] places;
    final int[] placeCounts;
    final int[] nextPlaces;
    /** By source: the place of the row that was read last. */
    final int[] readPlaces;
    final int[] found;
    /** The numbers of the answers found, in the order in which they are given. */
    final int[] ranks;
    int answers;
    int steps;
    /** Which source of the plan is read next; NONE when nothing is left to be read. */
    int depth;

    Work() {
      places = new int[Question.MOST_SOURCES * Table.MOST_ROWS];
      placeCounts = new int[Question.MOST_SOURCES];
      nextPlaces = new int[Question.MOST_SOURCES];
      readPlaces = new int[Question.MOST_SOURCES];
      found = new int[Question.MOST_ANSWERS * Question.MOST_OUTPUTS];
      ranks = new int[Question.MOST_ANSWERS];
      depth = NONE;
    }

    void clear() {
      answers = 0;
      steps = 0;
      depth = NONE;
    }

    void begin(Question question, Plan plan) {
      clear();
      openSource(question, plan, 0);
      leaveFinishedSources();
    }

    boolean isDone(Question question) {
      return depth == NONE || answers >= question.enoughAnswers();
    }

    /**
     * Reads one row. Sources that are gone through are left at once, so that the last step tells
     * that nothing is left.
     */
    void makeStep(Question question, Plan plan) {
      int source = plan.order[depth];
      readPlaces[source] = places[depth * Table.MOST_ROWS + nextPlaces[depth]];
      nextPlaces[depth]++;
      steps++;
      if (passes(question, plan)) {
        if (depth == question.sources - 1) {
          keepAnswer(question);
        } else {
          openSource(question, plan, depth + 1);
        }
      }
      leaveFinishedSources();
    }

    int valueOf(int number, int output) {
      return found[ranks[number] * Question.MOST_OUTPUTS + output];
    }

    private void leaveFinishedSources() {
      while (depth >= 0 && nextPlaces[depth] >= placeCounts[depth]) {
        depth--;
      }
    }

    private boolean passes(Question question, Plan plan) {
      int source = plan.order[depth];
      for (int i = 0; i < question.conditionCount; i++) {
        Condition condition = question.conditions[i];
        if (condition.source == source
            && !condition.holds(readValue(question, source, condition.column))) {
          return false;
        }
      }
      for (int i = 0; i < question.joinCount; i++) {
        Join join = question.joins[i];
        if (plan.tiesBack(join, depth)
            && readValue(question, join.first, join.firstColumn)
                != readValue(question, join.second, join.secondColumn)) {
          return false;
        }
      }
      return true;
    }

    private int readValue(Question question, int source, int column) {
      return question.tables[source].value(readPlaces[source], column);
    }

    private void openSource(Question question, Plan plan, int k) {
      depth = k;
      nextPlaces[k] = 0;
      placeCounts[k] = 0;
      Table table = question.tables[plan.order[k]];
      for (int place = 0; place < table.rows; place++) {
        if (plan.wayConditions[k] != NONE) {
          Condition condition = question.conditions[plan.wayConditions[k]];
          openByCondition(table, condition, plan.ways[k] == ORDERED_WAY, place);
        } else if (plan.wayJoins[k] != NONE) {
          openByJoin(question, question.joins[plan.wayJoins[k]], plan.order[k], place);
        } else {
          addPlace(place);
        }
      }
    }

    private void openByCondition(Table table, Condition condition, boolean byValue, int place) {
      if (condition.holds(table.value(place, condition.column))) {
        addPlace(place);
        if (byValue) {
          sinkLastPlace(table, condition.column);
        }
      }
    }

    /** All rows on a join's way have one value: by value or by number, their order is the same. */
    private void openByJoin(Question question, Join join, int source, int place) {
      int partner = join.partnerOf(source);
      int wanted = readValue(question, partner, join.columnOf(partner));
      if (question.tables[source].value(place, join.columnOf(source)) == wanted) {
        addPlace(place);
      }
    }

    private void addPlace(int place) {
      places[depth * Table.MOST_ROWS + placeCounts[depth]] = place;
      placeCounts[depth]++;
    }

    /** Moves the place added last before those with greater values, but behind equal ones. */
    private void sinkLastPlace(Table table, int column) {
      int start = depth * Table.MOST_ROWS;
      int at = start + placeCounts[depth] - 1;
      int place = places[at];
      int value = table.value(place, column);
      while (at > start && table.value(places[at - 1], column) > value) {
        places[at] = places[at - 1];
        at--;
      }
      places[at] = place;
    }

    private void keepAnswer(Question question) {
      int start = answers * Question.MOST_OUTPUTS;
      for (int i = 0; i < question.outputCount; i++) {
        Output output = question.outputs[i];
        found[start + i] = readValue(question, output.source, output.column);
      }
      int rank = answers;
      while (rank > 0 && question.isOrdered() && goesBefore(question, answers, ranks[rank - 1])) {
        ranks[rank] = ranks[rank - 1];
        rank--;
      }
      ranks[rank] = answers;
      answers++;
    }

    private boolean goesBefore(Question question, int one, int other) {
      int value = found[one * Question.MOST_OUTPUTS + question.orderOutput];
      int otherValue = found[other * Question.MOST_OUTPUTS + question.orderOutput];
      return question.falling ? value > otherValue : value < otherValue;
    }
  }
}
