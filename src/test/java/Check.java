/** Counts and prints the answers that are not the ones that are due. */
final class Check {
  private final String name;
  private String sentence = "";
  private int sentences = 0;
  private int made = 0;
  private int wrong = 0;

  Check(String name) {
    this.name = name;
  }

  /**
   * Runs the test of these words of the document, the promise's number before them. What it throws
   * counts as wrong and does not keep the tests behind it from running.
   */
  void sentence(String words, Runnable test) {
    sentence = "\"" + words + "\": ";
    sentences++;
    try {
      test.run();
    } catch (RuntimeException e) {
      note("the test", false, e.toString(), "nothing thrown");
    }
    sentence = "";
  }

  void same(String what, long got, long due) {
    note(what, got == due, Long.toString(got), Long.toString(due));
  }

  void same(String what, boolean got, boolean due) {
    note(what, got == due, Boolean.toString(got), Boolean.toString(due));
  }

  /** Floats are due to the last bit. */
  void sameFloat(String what, float got, float due) {
    note(what, Float.floatToIntBits(got) == Float.floatToIntBits(due), Float.toString(got), Float.toString(due));
  }

  void sameText(String what, String got, String due) {
    note(what, got.equals(due), got, due);
  }

  /** The call must throw exactly the exception that is due, not one that extends it. */
  void fails(String what, Class<? extends RuntimeException> due, Runnable call) {
    String got = "nothing";
    try {
      call.run();
    } catch (RuntimeException e) {
      got = e.getClass().getName();
    }
    note(what + " throws", got.equals(due.getName()), got, due.getName());
  }

  void end() {
    String tested = sentences == 0 ? "" : sentences + " sentences, ";
    System.out.println(name + ": " + tested + made + " answers, " + wrong + " not as due");
    if (wrong > 0) {
      System.exit(1);
    }
  }

  private void note(String what, boolean right, String got, String due) {
    made++;
    if (!right) {
      wrong++;
      System.out.println(name + ": " + sentence + what + " answered " + got + ", due is " + due);
    }
  }
}
