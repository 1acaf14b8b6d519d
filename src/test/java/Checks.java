import java.util.NoSuchElementException;

/** What the tests share: the checks of answers, and short ways to make desks and to read them. */
abstract class Checks {
  static final int LEAST = Integer.MIN_VALUE;
  static final int MOST = Integer.MAX_VALUE;

  static int wrong = 0;
  /** What the present test is about; it stands before each fault. */
  static String about = "";

  interface Call { void make(); }

  interface NumberCall { void make(int number); }

  // ---- answers that are due

  static void fault(String text) {
    wrong++;
    System.out.println(about + ", line " + line() + ": " + text);
  }

  private static int line() {
    for (StackTraceElement e : new Throwable().getStackTrace()) {
      if (!e.getClassName().equals("Checks")) return e.getLineNumber();
    }
    return 0;
  }

  static void due(long got, long want) { if (got != want) fault("answered " + got + ", due is " + want); }

  static void due(boolean got, boolean want) { if (got != want) fault("answered " + got + ", due is " + want); }

  static void due(String got, String want) {
    if (!got.equals(want)) fault("answered\n" + got + "\ndue is\n" + want);
  }

  static void dueThrow(Class<?> kind, Call call) {
    try {
      call.make();
      fault("threw nothing, due is " + kind.getSimpleName());
    } catch (RuntimeException e) {
      if (e.getClass() != kind) fault("threw " + e + ", due is " + kind.getSimpleName());
      Calls.refuseWhatTheMachineThrows(e);
    }
  }

  /** The exception is due, and nothing that can be asked may be changed by the call. */
  static void dueThrow(SchoolPlaces p, Class<?> kind, Call call) {
    String before = Calls.everything(p);
    dueThrow(kind, call);
    due(Calls.everything(p), before);
  }

  static void dueIndex(SchoolPlaces p, Call call) { dueThrow(p, IndexOutOfBoundsException.class, call); }

  static void dueArgument(SchoolPlaces p, Call call) { dueThrow(p, IllegalArgumentException.class, call); }

  static void dueState(SchoolPlaces p, Call call) { dueThrow(p, IllegalStateException.class, call); }

  static void dueNone(SchoolPlaces p, Call call) { dueThrow(p, NoSuchElementException.class, call); }

  /** Numbers outside 0 to last: the nearest ones, the ends of int, and such as look right in their lower bits. */
  static int[] beyond(int last) {
    return new int[] {-1, last + 1, LEAST, MOST, -65536, 65536, LEAST + last, 1 << 30};
  }

  static void dueIndexBeyond(SchoolPlaces p, int last, NumberCall call) {
    for (int number : beyond(last)) dueIndex(p, () -> call.make(number));
  }

  static void dueArgumentBeyond(SchoolPlaces p, int last, NumberCall call) {
    for (int number : beyond(last)) dueArgument(p, () -> call.make(number));
  }

  static void dueNoneBeyond(SchoolPlaces p, int last, NumberCall call) {
    for (int number : beyond(last)) dueNone(p, () -> call.make(number));
  }

  /** An appeal that is refused: the reason is kept, and no entry is made. */
  static void dueRefused(SchoolPlaces p, int child, int school, int strength, int reason) {
    int entries = p.account(8);
    String held = seats(p);
    dueThrow(IllegalStateException.class, () -> p.appeal(child, school, strength));
    due(p.reason(), reason);
    due(p.account(8), entries);
    due(seats(p), held);
  }

  static void dueWrongText(SchoolPlaces p, String text, int position) {
    String before = Calls.everything(p);
    feed(p, text);
    dueThrow(IllegalArgumentException.class, p::readChild);
    due(p.errorPosition(), position);
    due(p.account(10), 0);
    due(withoutError(Calls.everything(p)), withoutError(before));
  }

  /** A text without an error that is refused for its numbers, its schools or the room: only the input changes. */
  static void dueRefusedText(SchoolPlaces p, String text, Class<?> kind) {
    String before = Calls.everything(p);
    feed(p, text);
    dueThrow(kind, p::readChild);
    due(Calls.everything(p), before);
  }

  // ---- desks

  static void feed(SchoolPlaces p, String text) {
    for (char c : text.toCharArray()) p.feed(c);
  }

  static int read(SchoolPlaces p, String text) {
    feed(p, text);
    return p.readChild();
  }

  /** Schools that all stand at 0, 0, with radius 20 and the seats that the signs tell (c for 12), and children. */
  static SchoolPlaces desk(String seats, String... children) {
    SchoolPlaces p = new SchoolPlaces();
    for (char c : seats.toCharArray()) p.addSchool(0, 0, Character.digit(c, 13), 20);
    for (String text : children) read(p, text);
    return p;
  }

  /** Children with one text; each of a family of its own as long as there are families. */
  static void crowd(SchoolPlaces p, int count, String choices) {
    for (int i = 0; i < count; i++) read(p, "0," + i + "f" + i % 12 + "l0:" + choices);
  }

  // ---- readings

  static String entryOf(SchoolPlaces p, int e) {
    return p.entry(e, 0) + ":" + p.entry(e, 1) + ":" + p.entry(e, 2) + ":" + p.entry(e, 3);
  }

  /** All entries from the given one on. */
  static String entries(SchoolPlaces p, int from) {
    StringBuilder all = new StringBuilder();
    for (int e = from; e < Math.min(80, p.account(8)); e++) all.append(e > from ? " " : "").append(entryOf(p, e));
    return all.toString();
  }

  static String list(SchoolPlaces p, int school, boolean held) {
    StringBuilder all = new StringBuilder();
    int length = p.school(school, held ? 5 : 7);
    for (int i = 0; i < length; i++) all.append(i > 0 ? " " : "").append(held ? p.held(school, i) : p.waiting(school, i));
    return all.toString();
  }

  static String choices(SchoolPlaces p, int child) {
    StringBuilder all = new StringBuilder();
    for (int i = 0; i < p.child(child, 3); i++) all.append(p.choice(child, i));
    return all.toString();
  }

  static String seats(SchoolPlaces p) {
    StringBuilder all = new StringBuilder();
    for (int c = 0; c < p.account(1); c++) all.append(c > 0 ? " " : "").append(p.child(c, 4));
    return all.toString();
  }

  /** Takes the error position (the third text behind the numbers) out of what Calls.everything tells. */
  static String withoutError(String all) { return without(all, 15); }

  /** Takes the number of changes that can be undone out of what Calls.everything tells. */
  static String withoutUndos(String all) { return without(all, 10); }

  /** Takes the reason out of what Calls.everything tells. */
  static String withoutReason(String all) { return without(all, 14); }

  /** All that can be asked, but for the number of undos, the reason and the error position. */
  static String withoutTold(SchoolPlaces p) { return withoutUndos(withoutReason(withoutError(Calls.everything(p)))); }

  private static String without(String all, int part) {
    String[] parts = all.split(" ");
    parts[part] = "?";
    return String.join(" ", parts);
  }
}
