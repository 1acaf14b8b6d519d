import java.io.IOException;
import java.lang.reflect.Constructor;
import java.lang.reflect.Field;
import java.lang.reflect.Method;
import java.lang.reflect.Modifier;
import java.nio.file.Files;
import java.nio.file.Path;
import java.util.Arrays;
import java.util.List;
import java.util.TreeSet;

/** The face of the class, and those rules of LANGUAGE.md that can be seen in its text. Argument: the source file. */
public final class RuleTests {
  private static final String[] FACE = {
    "int addSchool(int, int, int, int) IllegalArgumentException IllegalStateException",
    "int setSeats(int, int) IndexOutOfBoundsException IllegalArgumentException",
    "int setRadius(int, int) IndexOutOfBoundsException IllegalArgumentException",
    "int setRule(int, int) IndexOutOfBoundsException IllegalArgumentException",
    "int setLimit(int, int) IndexOutOfBoundsException IllegalArgumentException",
    "boolean setPupils(int, int, boolean) IndexOutOfBoundsException",
    "int school(int, int) IndexOutOfBoundsException IllegalArgumentException",
    "int held(int, int) IndexOutOfBoundsException NoSuchElementException",
    "int waiting(int, int) IndexOutOfBoundsException NoSuchElementException",
    "int addChild(int, int, int, int) IllegalArgumentException IllegalStateException",
    "int readChild() IllegalArgumentException IllegalStateException",
    "int choose(int, int, int) IndexOutOfBoundsException IllegalArgumentException IllegalStateException",
    "int setNeed(int, int) IndexOutOfBoundsException",
    "int child(int, int) IndexOutOfBoundsException IllegalArgumentException",
    "int choice(int, int) IndexOutOfBoundsException NoSuchElementException",
    "int rank(int, int, int) IndexOutOfBoundsException IllegalArgumentException",
    "int why(int, int) IndexOutOfBoundsException",
    "int allocate()",
    "int again(int) IndexOutOfBoundsException",
    "int unstable()",
    "int withdraw(int) IndexOutOfBoundsException UnsupportedOperationException",
    "int appeal(int, int, int) IndexOutOfBoundsException IllegalArgumentException IllegalStateException",
    "int reason() NoSuchElementException",
    "int entry(int, int) NoSuchElementException IllegalArgumentException",
    "int account(int) IllegalArgumentException",
    "double meanDistance() ArithmeticException",
    "int feed(char) IllegalStateException",
    "int errorPosition() NoSuchElementException",
    "int undo() IllegalStateException",
    "int save()",
    "int restore() IllegalStateException"};

  private static final String[] FORBIDDEN = {"\\btry\\b", "\\bcatch\\b", "\\bfinally\\b", "->", "::", "\\bassert\\b",
    "\\bsynchronized\\b", "\\bprotected\\b", "\\bvolatile\\b", "\\btransient\\b", "\\bnative\\b", "\\bSystem\\.(?!arraycopy\\()",
    "\\bString\\.format\\b", "\\bequals\\b", "\\bhashCode\\b", "\\btoString\\b", "\\bpackage\\b", "\\bwhile\\b",
    "for\\s*\\(\\s*;", "static\\s*\\{", "\\bException\\b", "\\bRuntimeException\\b", "[^\\x00-\\x7e]"};

  private static int wrong = 0;

  public static void main(String[] args) throws IOException {
    face();
    names();
    List<String> lines = Files.readAllLines(Path.of(args[0]));
    source(lines);
    objects(lines);
    System.out.println(wrong == 0 ? "RuleTests: the rules are kept" : "RuleTests: " + wrong + " faults");
    if (wrong != 0) System.exit(1);
  }

  private static void fault(String text) {
    wrong++;
    System.out.println(text);
  }

  private static void face() {
    TreeSet<String> found = new TreeSet<>();
    for (Method m : SchoolPlaces.class.getDeclaredMethods()) {
      if (!Modifier.isPrivate(m.getModifiers())) found.add(header(m));
    }
    TreeSet<String> due = new TreeSet<>(Arrays.asList(FACE));
    if (!found.equals(due)) fault("face: found " + found + "\ndue is " + due);
    int type = SchoolPlaces.class.getModifiers();
    if (!Modifier.isPublic(type) || !Modifier.isFinal(type)) fault("the class is not public and final");
    for (Constructor<?> c : SchoolPlaces.class.getDeclaredConstructors()) {
      if (!Modifier.isPublic(c.getModifiers()) || c.getParameterCount() != 0) fault("constructor " + c);
    }
    for (Field f : SchoolPlaces.class.getDeclaredFields()) {
      if (!Modifier.isPrivate(f.getModifiers())) fault("a field that is not private: " + f);
    }
  }

  private static String header(Method m) {
    if (!Modifier.isPublic(m.getModifiers()) || Modifier.isStatic(m.getModifiers())) return "not of the face: " + m;
    StringBuilder text = new StringBuilder(m.getReturnType().getName() + " " + m.getName() + "(");
    for (Class<?> p : m.getParameterTypes()) text.append(text.toString().endsWith("(") ? "" : ", ").append(p.getName());
    text.append(")");
    for (Class<?> e : m.getExceptionTypes()) text.append(" ").append(e.getSimpleName());
    return text.toString();
  }

  /** No other method bears a name of the face; static fields are final; no class has too many fields. */
  private static void names() {
    TreeSet<String> face = new TreeSet<>();
    for (Method m : SchoolPlaces.class.getMethods()) face.add(m.getName());
    Class<?>[] inside = SchoolPlaces.class.getDeclaredClasses();
    if (inside.length > 11) fault("more than 12 classes");
    for (Class<?> c : inside) {
      if (!Modifier.isStatic(c.getModifiers())) fault("not static: " + c);
      for (Method m : c.getDeclaredMethods()) {
        boolean ofEnum = c.isEnum() && (m.getName().equals("values") || m.getName().equals("valueOf"));
        if (face.contains(m.getName()) && !ofEnum) fault("a name of the face: " + m);
        if (m.getParameterCount() > 7) fault("more than 7 parameters: " + m);
      }
      fields(c);
    }
    for (Method m : SchoolPlaces.class.getDeclaredMethods()) {
      if (Modifier.isPrivate(m.getModifiers()) && face.contains(m.getName())) fault("a name of the face: " + m);
    }
    fields(SchoolPlaces.class);
  }

  private static void fields(Class<?> type) {
    int count = 0;
    for (Field f : type.getDeclaredFields()) {
      boolean constant = Modifier.isStatic(f.getModifiers());
      if (constant && !Modifier.isFinal(f.getModifiers())) fault("a static field that is not final: " + f);
      if (!constant) count++;
    }
    if (count > 20) fault("more than 20 fields: " + type);
  }

  private static void source(List<String> lines) {
    int start = 0;
    for (int i = 0; i < lines.size(); i++) {
      String line = lines.get(i);
      String code = code(line);
      for (String word : FORBIDDEN) {
        if (code.matches(".*" + word + ".*")) fault("line " + (i + 1) + " has " + word + ": " + line);
      }
      if (code.startsWith("import ") && !code.equals("import java.util.NoSuchElementException;")) fault("line " + (i + 1) + ": " + line);
      boolean opens = code.matches("( {4}| {8})\\S.*\\) *(throws [A-Za-z, ]+)?\\{") && !code.trim().matches("(for|if|switch|do|else)\\b.*");
      if (opens) start = i;
      if (code.matches("( {4}| {8})\\}") && i - start > 60 && start > 0 && indent(lines.get(start)) == indent(line)) {
        fault("line " + (start + 1) + ": a method of more than 60 lines");
      }
    }
  }

  /** A run has little room, and README.md says so: only constructors make objects, and what throws makes its exception. */
  private static void objects(List<String> lines) {
    boolean constructor = false;
    for (int i = 0; i < lines.size(); i++) {
      String code = code(lines.get(i));
      if (code.matches("\\s+(public )?[A-Z]\\w*\\(.*\\) \\{")) constructor = true;
      if (code.matches("( {4}| {8})\\}")) constructor = false;
      boolean makes = code.matches(".*\\bnew\\b.*") && !code.contains("throw new ") || code.matches(".*\\.(clone|values)\\(.*");
      if (makes && !constructor) fault("line " + (i + 1) + " makes an object: " + lines.get(i));
    }
  }

  /** The line without what its texts and comments say. */
  private static String code(String line) {
    return line.replaceAll("\"[^\"]*\"", "\"\"").replaceAll("//.*|^\\s*/?\\*.*", "");
  }

  private static int indent(String line) { return line.length() - line.stripLeading().length(); }
}
