import java.nio.file.Files;
import java.nio.file.Path;
import java.util.ArrayList;
import java.util.List;
import java.util.regex.Matcher;
import java.util.regex.Pattern;

/**
 * The example of README.md is the one that runs here, line by line, and answers what the README says
 * beside each line. The class's source is the first argument; README.md is found from there.
 */
public final class ReadmeTest {
  private static int wrong;

  /** The answers of the example, in its order: where a line keeps one and the README tells a number. */
  private static int[] example() {
    // README begins
    VtableTown town = new VtableTown();
    int animal = town.plain(-1, 0);              // a PLAIN CLASS without PARENT and INTERFACES: 0
    town.method(animal, 1);                      // its NAME 1 has a BODY ...
    town.step(animal, 1, 3, 2, 0);               // ... that CALLs the NAME 2 on the own object
    town.method(animal, 2);                      // an empty BODY gives 0
    int dog = town.plain(animal, 0);             // its PARENT is animal: 1
    town.method(dog, 2);
    town.step(dog, 2, 0, 42, 0);                 // ADD 42
    int quiet = town.run(animal, 1);             // 0: animal is LOADED, and its PLACE is DIRECT
    int turns = town.wouldTurn(dog);             // 1: that PLACE, as soon as dog is LOADED, too
    int given = town.run(dog, 1);                // 42
    int cost = town.many(12);                    // 68: 50 LOADED, 6 MAKE, 2 STEPS, 10 a MISS
    int warm = town.wouldCost(dog, 1);           // 10: a HIT costs 2, nothing is LOADED
    int direct = town.ofPlace(animal, 1, 0, 0);  // 0: TURNED BACK as dog became LOADED
    int broken = town.run(7, 1);                 // -10001: the FAULT 1, nobody told it
    // README ends
    return new int[] {animal, dog, quiet, turns, given, cost, warm, direct, broken};
  }

  public static void main(String[] args) throws Exception {
    Path root = Path.of(args[0]).toAbsolutePath().getParent().getParent().getParent().getParent();
    List<String> readme = between(root.resolve("README.md"), "```java", "```");
    List<String> here = between(root.resolve("src/test/java/ReadmeTest.java"), "// README begins", "// README ends");
    due(!readme.isEmpty() && readme.equals(here), "the README's example is not the one of this test");
    checkAnswers(readme, example());
    System.out.println(wrong == 0 ? "the README's example holds" : wrong + " things are amiss in README.md");
    if (wrong != 0) {
      System.exit(1);
    }
  }

  private static void due(boolean holds, String what) {
    if (!holds) {
      wrong++;
      System.out.println(what);
    }
  }

  /** The lines between the first two lines that are these, without the spaces around them. */
  private static List<String> between(Path file, String begin, String end) throws Exception {
    List<String> found = new ArrayList<>();
    boolean inside = false;
    for (String line : Files.readAllLines(file)) {
      String text = line.strip();
      if (inside && text.equals(end)) {
        return found;
      }
      if (inside) {
        found.add(text);
      }
      inside |= text.equals(begin);
    }
    return new ArrayList<>();
  }

  /** The number that a line tells stands first behind its "//", or last behind a ":". */
  private static void checkAnswers(List<String> lines, int[] answers) {
    Pattern told = Pattern.compile("int (\\w+) = .*//(?: | .*: )(-?\\d+)(?::.*)?");
    int n = 0;
    for (String line : lines) {
      Matcher m = told.matcher(line);
      if (m.matches()) {
        boolean right = n < answers.length && answers[n] == Integer.parseInt(m.group(2));
        due(right, "the README says " + m.group(2) + " for " + m.group(1));
        n++;
      }
    }
    due(n == answers.length, "the README tells " + n + " answers of " + answers.length);
  }
}
