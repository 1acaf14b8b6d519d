import java.lang.reflect.InvocationTargetException;
import java.lang.reflect.Method;
import java.util.HashMap;
import java.util.Map;
import java.util.NoSuchElementException;

/** Makes calls by name on a SchoolPlaces or a PlainModel, and writes their answers as texts. */
final class Calls {
  private static final Map<String, Method> FOUND = new HashMap<>();

  private Calls() { }

  /** The answer of a call, or the name of what it throws. */
  static String answer(Object target, String name, Object... args) {
    try {
      return String.valueOf(method(target.getClass(), name).invoke(target, args));
    } catch (InvocationTargetException e) {
      if (target instanceof SchoolPlaces) refuseWhatTheMachineThrows(e.getCause());
      return e.getCause().getClass().getSimpleName();
    } catch (IllegalAccessException e) {
      throw new IllegalStateException(e);
    }
  }

  /** A machine's exception has a name of its own, or was made in a class of the library, or tells of a division. */
  static void refuseWhatTheMachineThrows(Throwable thrown) {
    StackTraceElement[] trace = thrown.getStackTrace();
    boolean named = thrown.getClass() == IndexOutOfBoundsException.class || thrown.getClass() == IllegalArgumentException.class
        || thrown.getClass() == IllegalStateException.class || thrown.getClass() == NoSuchElementException.class
        || thrown.getClass() == UnsupportedOperationException.class || thrown.getClass() == ArithmeticException.class;
    boolean own = trace.length > 0 && trace[0].getClassName().startsWith("SchoolPlaces");
    if (!named || !own || "/ by zero".equals(thrown.getMessage())) {
      throw new IllegalStateException("the machine threw " + thrown, thrown);
    }
  }

  /** All that can be asked of an object, as one text: equal texts, equal states (but for the undos and the snapshot). */
  static String everything(Object target) {
    StringBuilder all = new StringBuilder();
    int schools = ask(all, target, "account", 0);
    int children = ask(all, target, "account", 1);
    for (int what = 2; what <= 11; what++) ask(all, target, "account", what);
    for (String name : new String[] {"meanDistance", "reason", "errorPosition", "unstable"}) {
      all.append(' ').append(answer(target, name));
    }
    for (int s = 0; s < schools; s++) {
      for (int what = 0; what <= 8; what++) ask(all, target, "school", s, what);
      list(all, target, "held", s);
      list(all, target, "waiting", s);
    }
    for (int c = 0; c < children; c++) {
      all.append("\nchild ").append(c);
      for (int what = 0; what <= 7; what++) ask(all, target, "child", c, what);
      list(all, target, "choice", c);
      ask(all, target, "again", c);
      for (int s = 0; s < schools; s++) {
        for (int what = 0; what <= 4; what++) ask(all, target, "rank", c, s, what);
        ask(all, target, "why", c, s);
      }
    }
    all.append("\njournal");
    for (int e = 0; e < 80 && !answer(target, "entry", e, 0).startsWith("No"); e++) {
      for (int what = 0; what <= 3; what++) ask(all, target, "entry", e, what);
    }
    return all.toString();
  }

  private static int ask(StringBuilder all, Object target, String name, Object... args) {
    String answer = answer(target, name, args);
    all.append(' ').append(answer);
    return answer.matches("-?[0-9]+") ? Integer.parseInt(answer) : 0;
  }

  private static void list(StringBuilder all, Object target, String name, int row) {
    all.append(' ').append(name);
    for (int i = 0; i < 24; i++) {
      String answer = answer(target, name, row, i);
      if (answer.equals("NoSuchElementException")) return;
      all.append(' ').append(answer);
    }
  }

  private static Method method(Class<?> type, String name) {
    String key = type.getName() + '.' + name;
    Method method = FOUND.get(key);
    if (method == null) {
      for (Method m : type.getDeclaredMethods()) {
        if (m.getName().equals(name)) method = m;
      }
      if (method == null) throw new IllegalStateException("no method " + key);
      method.setAccessible(true);
      FOUND.put(key, method);
    }
    return method;
  }
}
