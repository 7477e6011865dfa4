import java.nio.file.Files;
import java.nio.file.Path;
import java.util.List;
import java.util.Set;
import java.util.TreeSet;
import java.util.regex.Matcher;
import java.util.regex.Pattern;

/** The calls that README.md shows answer as it says, and it names every call of the face. */
public final class ReadmeTest {
  static final Due due = new Due();
  static final Pattern CALL = Pattern.compile("city\\.(\\w+\\(.*?\\));\\s*// (throws \\w+|[-\\w.]+).*");

  public static void main(String[] args) throws Exception {
    List<String> lines = Files.readAllLines(Path.of(System.getProperty("project", "."), "README.md"));
    examples(lines);
    names(lines);
    due.over();
  }

  static void examples(List<String> lines) {
    CityBrigade city = null;
    boolean inside = false;
    int calls = 0;
    for (String line : lines) {
      if (line.startsWith("```")) {
        inside = line.equals("```java");
        continue;
      }
      if (!inside) continue;
      if (line.equals("CityBrigade city = new CityBrigade();")) {
        city = new CityBrigade();
        continue;
      }
      Matcher call = CALL.matcher(line);
      due.yes("a call with its answer: " + line, call.matches() && city != null);
      if (!call.matches() || city == null) continue;
      String got = new Step(call.group(1)).on(city);
      due.yes(call.group(1) + " answered " + got + ", README.md says " + call.group(2), got.equals(call.group(2)));
      calls++;
    }
    due.yes("calls are shown", calls > 30);
  }

  static void names(List<String> lines) {
    Set<String> named = new TreeSet<>();
    for (String line : lines) {
      if (!line.startsWith("| `")) continue;
      Matcher name = Pattern.compile("`(\\w+)`").matcher(line.substring(0, line.indexOf('|', 1)));
      while (name.find()) named.add(name.group(1));
    }
    Set<String> face = new TreeSet<>();
    for (var m : CityBrigade.class.getDeclaredMethods()) if (java.lang.reflect.Modifier.isPublic(m.getModifiers())) face.add(m.getName());
    due.is("README.md names " + named + ", the face has " + face, named.equals(face), true);
  }
}
