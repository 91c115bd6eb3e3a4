import java.io.IOException;
import java.nio.file.Files;
import java.nio.file.Path;
import java.util.ArrayList;
import java.util.List;

/** The example in README.md does what its comments say, and is the one that is tried here. */
public final class ReadmeTest {
  private static final Check CHECK = new Check("ReadmeTest");

  public static void main(String[] args) throws IOException {
    tryExample();
    List<String> shown = between(Path.of("README.md"), "```java", "```");
    List<String> tried = between(Path.of("src/test/java/ReadmeTest.java"), "// The example begins.", "// The example ends.");
    CHECK.same("README.md has an example", shown.isEmpty(), false);
    CHECK.sameText("the example in README.md", String.join("\n", shown), String.join("\n", tried));
    CHECK.end();
  }

  private static void tryExample() {
    // The example begins.
    QueryDesk desk = new QueryDesk();
    desk.create(0, 2);                         // table 0: person, city
    desk.insert(0, 1, 10, 0, 0);               // row 0; the numbers beyond the columns do not count
    desk.insert(0, 2, 20, 0, 0);               // row 1
    desk.insert(0, 3, 10, 0, 0);               // row 2
    desk.create(1, 2);                         // table 1: city, size
    desk.insert(1, 10, 700, 0, 0);
    desk.insert(1, 20, 900, 0, 0);
    desk.insert(1, 30, 800, 0, 0);
    desk.index(1, 0, 0);                       // a HASH index of the cities

    desk.ask();                                // a new question
    int people = desk.from(0);                 // source 0
    int cities = desk.from(1);                 // source 1
    desk.where(people, 0, 2, 1);               // person > 1
    desk.join(people, 1, cities, 0);           // the person's city is the city
    desk.select(people, 0);                    // output 0
    desk.select(cities, 1);                    // output 1
    desk.order(1, true);                       // by output 1, falling
    desk.limit(5);

    float cost = desk.plan();                  // 7.0; the question is under way now
    int first = desk.explain(0, 0);            // 0: the people are read first
    int way = desk.explain(1, 1);              // 1: then, for each one, a city by the HASH index
    int steps = desk.run(200);                 // 5: at most 200 rows are read, here all there are
    int state = desk.look(0);                  // 2: answered; still 1 if rows were left to be read
    int answers = desk.look(2);                // 2
    int person = desk.answer(0, 0);            // 2
    int size = desk.answer(0, 1);              // 900
    // The example ends.
    CHECK.same("people", people, 0);
    CHECK.same("cities", cities, 1);
    CHECK.sameFloat("cost", cost, 7f);
    CHECK.same("first", first, 0);
    CHECK.same("way", way, 1);
    CHECK.same("steps", steps, 5);
    CHECK.same("state", state, 2);
    CHECK.same("answers", answers, 2);
    CHECK.same("person", person, 2);
    CHECK.same("size", size, 900);
  }

  /** The lines between the first line that begins so and the next that ends so, without their indents. */
  private static List<String> between(Path file, String begin, String end) throws IOException {
    List<String> found = new ArrayList<>();
    boolean inside = false;
    for (String line : Files.readAllLines(file)) {
      if (inside && line.strip().equals(end)) {
        return found;
      }
      if (inside) {
        found.add(line.strip());
      }
      inside = inside || line.strip().equals(begin);
    }
    return List.of();
  }
}
