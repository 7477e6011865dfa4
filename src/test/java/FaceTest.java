import java.lang.reflect.Constructor;
import java.lang.reflect.Field;
import java.lang.reflect.Method;
import java.lang.reflect.Modifier;
import java.nio.file.Files;
import java.nio.file.Path;
import java.util.Arrays;
import java.util.List;
import java.util.Set;
import java.util.TreeSet;
import java.util.regex.Matcher;
import java.util.regex.Pattern;

/** The public face, as the document lists it, and what LANGUAGE.md says of the file, as far as a test can see it. */
public final class FaceTest {
  static final Due due = new Due();

  static final String FACE = "int street(int,int,int);boolean jam(int,int,int);boolean closed(int,boolean);int come(int,int,int,int);"
      + "int feet(int,int);int house(int,int,int,int,int);boolean build(int,boolean,int,int);boolean use(int,int);"
      + "boolean floor(int,int,int,int);boolean light(int,int);int room(int,int,int);int floored(int,int,int);int housed(int,int);"
      + "int main(int);int head(int,int);int crew(int,int,boolean,int,int);boolean gear(int,int,int,int);boolean heal(int);"
      + "boolean recall(int);int about(int,int);int reach(int,int);int call(int);int called(int,int);int falses(int,int);"
      + "int feed(int,int,int,int,int);boolean end(int);int fault(int);int orders();boolean leaving();int asks(int,int,int);"
      + "int why(int,int);int tick(int);int act(int);int force(int,int);boolean change(int,int,int);int used(int,int);"
      + "boolean look(int);int fails(int,int);int code(int,int,int);int failing();int round(int,int,int);int rounded(int,int,int);"
      + "int plan(int,int);int planned(int,int,int);int row(int);boolean put(int,int,int);boolean lose(int);"
      + "int copy(int,int,int,int,int);double judge(int,int,int);double loss(int,int,int,int);int what(int,int,int,int);int count(int)";

  public static void main(String[] args) throws Exception {
    members();
    classesInside();
    source();
    due.over();
  }

  static String told(Method m) {
    StringBuilder s = new StringBuilder(m.getReturnType().getName()).append(' ').append(m.getName()).append('(');
    Class<?>[] p = m.getParameterTypes();
    for (int i = 0; i < p.length; i++) s.append(i > 0 ? "," : "").append(p[i].getName());
    return s.append(')').toString();
  }

  static void members() {
    due.part("the face");
    Class<CityBrigade> c = CityBrigade.class;
    due.yes("public and final", Modifier.isPublic(c.getModifiers()) && Modifier.isFinal(c.getModifiers()));
    due.is("NONE", CityBrigade.NONE, -1);
    Set<String> want = new TreeSet<>(Arrays.asList(FACE.split(";")));
    due.is("methods of the document", want.size(), 52);
    Set<String> names = new TreeSet<>();
    for (String w : want) names.add(w.substring(w.indexOf(' ') + 1, w.indexOf('(')));
    Set<String> got = new TreeSet<>();
    for (Method m : c.getDeclaredMethods()) {
      if (Modifier.isPrivate(m.getModifiers())) {
        due.no("private with a public name: " + m.getName(), names.contains(m.getName()));
        continue;
      }
      due.yes("public: " + m.getName(), Modifier.isPublic(m.getModifiers()) && !Modifier.isStatic(m.getModifiers()));
      got.add(told(m));
    }
    for (String w : want) due.yes("has " + w, got.contains(w));
    for (String g : got) due.yes("the document has " + g, want.contains(g));
    for (Field f : c.getDeclaredFields()) {
      due.is("a field: " + f.getName(), Modifier.isPrivate(f.getModifiers()), !f.getName().equals("NONE"));
      if (Modifier.isStatic(f.getModifiers())) due.yes("static and final: " + f.getName(), Modifier.isFinal(f.getModifiers()));
    }
    Constructor<?>[] made = c.getDeclaredConstructors();
    due.is("constructors", made.length, 1);
    due.yes("a public one without parameters", Modifier.isPublic(made[0].getModifiers()) && made[0].getParameterCount() == 0);
  }

  static void classesInside() {
    due.part("classes inside");
    Set<String> names = new TreeSet<>();
    for (String w : FACE.split(";")) names.add(w.substring(w.indexOf(' ') + 1, w.indexOf('(')));
    Class<?>[] inside = CityBrigade.class.getDeclaredClasses();
    due.yes("twelve at most", inside.length + 1 <= 12);
    for (Class<?> c : inside) {
      int m = c.getModifiers();
      due.yes(c + " is static, and not public", Modifier.isStatic(m) && !Modifier.isPublic(m) && !Modifier.isProtected(m));
      int fields = 0;
      for (Field f : c.getDeclaredFields()) if (!Modifier.isStatic(f.getModifiers())) fields++;
      due.yes(c + " has twenty fields at most", fields <= 20);
      for (Method x : c.getDeclaredMethods()) {
        due.no(c + " has a method with a public name: " + x.getName(), names.contains(x.getName()));
        due.yes(x + " has seven parameters at most", x.getParameterCount() <= 7);
      }
    }
  }

  static void source() throws Exception {
    due.part("the source");
    String project = System.getProperty("project", ".");
    List<String> lines = Files.readAllLines(Path.of(project, "src/main/java/CityBrigade.java"));
    String text = String.join("\n", lines) + "\n";
    String code = text.replaceAll("//[^\n]*", "").replaceAll("(?s)/\\*.*?\\*/", "");
    String[] never = {"->", "::", "Exact", "catch", "try ", "finally", "synchronized", "assert", "instanceof", "float ", "static {",
        "protected", "String[]", ".hashCode", ".toString", ".getClass", "while (true)", "for (;;)", "package "};
    for (String n : never) due.no("'" + n + "'", code.contains(n));
    for (int i = 0; i < text.length(); i++) if (text.charAt(i) > 126) { due.yes("ASCII alone", false); break; }
    int imports = 0;
    for (String line : lines) if (line.startsWith("import ")) imports++;
    due.is("imports", imports, 2);
    Matcher thrown = Pattern.compile("throw new (\\w+)").matcher(code);
    int throwing = 0;
    while (thrown.find()) {
      throwing++;
      due.yes("throws NoSuchElementException alone", thrown.group(1).equals("NoSuchElementException"));
    }
    due.is("places that throw", throwing, 1);
    shortMethods(lines);
  }

  static void shortMethods(List<String> lines) {
    Pattern head = Pattern.compile("^(    |        )(?! )[^=;]*\\) (throws \\w+ )?\\{$");
    for (int i = 0; i < lines.size(); i++) {
      Matcher m = head.matcher(lines.get(i));
      if (!m.matches()) continue;
      int end = i;
      while (end < lines.size() && !lines.get(end).equals(m.group(1) + "}")) end++;
      due.yes("a method of sixty lines at most: " + lines.get(i).trim(), end - i <= 60);
    }
  }
}
