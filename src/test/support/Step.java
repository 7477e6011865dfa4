import java.lang.reflect.InvocationTargetException;
import java.lang.reflect.Method;
import java.util.HashMap;
import java.util.Map;

/** One call of the class, told as it is written: "street(0, 1, 5)". */
final class Step {
  private static final Map<String, Method> FACE = face();

  final String told;
  private final Method method;
  private final Object[] given;

  Step(String told) {
    this.told = told;
    int open = told.indexOf('(');
    method = FACE.get(told.substring(0, open));
    if (method == null) throw new IllegalArgumentException("no such call: " + told);
    String inside = told.substring(open + 1, told.lastIndexOf(')')).trim();
    String[] words = inside.isEmpty() ? new String[0] : inside.split(",");
    Class<?>[] types = method.getParameterTypes();
    if (words.length != types.length) throw new IllegalArgumentException("not so many numbers: " + told);
    given = new Object[words.length];
    for (int i = 0; i < words.length; i++) given[i] = read(words[i].trim(), types[i]);
  }

  private static Map<String, Method> face() {
    Map<String, Method> all = new HashMap<>();
    for (Method m : CityBrigade.class.getMethods()) if (m.getDeclaringClass() == CityBrigade.class) all.put(m.getName(), m);
    return all;
  }

  private static Object read(String word, Class<?> type) {
    if (type == boolean.class) {
      if (!word.equals("true") && !word.equals("false")) throw new IllegalArgumentException("neither true nor false: " + word);
      return Boolean.valueOf(word);
    }
    if (word.equals("MIN")) return Integer.MIN_VALUE;
    if (word.equals("MAX")) return Integer.MAX_VALUE;
    return (int) (long) Long.decode(word);
  }

  /** The answer as a text; of a call that throws "throws" and what. */
  String on(CityBrigade x) {
    try {
      Object answer = method.invoke(x, given);
      // A minus in front of nothing is no other answer.
      return answer instanceof Double d && d == 0 ? "0.0" : String.valueOf(answer);
    } catch (InvocationTargetException e) {
      return "throws " + e.getCause().getClass().getSimpleName();
    } catch (IllegalAccessException e) {
      throw new IllegalStateException(told);
    }
  }
}
