import java.util.ArrayList;
import java.util.Comparator;
import java.util.List;
import java.util.NoSuchElementException;
import java.util.TreeSet;
import java.util.regex.Pattern;

/**
 * The document once more, written straight from its words with Java's collections, and in other ways than the
 * program: whole states are cloned, lists are sorted, and in a round all children without a seat ask at once.
 */
final class PlainModel {
  static final class S { int x, y, seats, radius, rule, limit = 50, added; }
  static final class C {
    int number, x, y, family, lot, need = -1, seat = -1;
    List<Integer> choices = new ArrayList<>();
    TreeSet<Integer> marks = new TreeSet<>();
    TreeSet<Integer> appeals = new TreeSet<>();
  }
  static final class State {
    List<S> schools = new ArrayList<>();
    List<C> children = new ArrayList<>();
    TreeSet<String> pupils = new TreeSet<>();
    List<int[]> journal = new ArrayList<>();
  }
  private static final Pattern WHOLE = Pattern.compile("[0-9]{1,3},[0-9]{1,3}f[0-9]{1,3}l[0-9]{1,3}(:[0-5]{1,4})?");
  private static final Pattern BEGINNING = Pattern.compile(
      "([0-9]{1,3}(,([0-9]{1,3}(f([0-9]{1,3}(l([0-9]{1,3}(:[0-5]{0,4})?)?)?)?)?)?)?)?");

  private State now = new State();
  private State kept = null;
  private final List<State> before = new ArrayList<>();
  private String input = "";
  private int reason = 0;
  private int error = -1;

  // ---- what calls do

  int addSchool(int x, int y, int seats, int radius) {
    range(x >= 0 && x <= 99 && y >= 0 && y <= 99 && seats >= 0 && seats <= 12 && radius >= 0 && radius <= 198);
    state(now.schools.size() < 6);
    change();
    S s = new S();
    s.x = x; s.y = y; s.seats = seats; s.radius = radius;
    now.schools.add(s);
    return now.schools.size() - 1;
  }
  int setSeats(int school, int seats) {
    index(isSchool(school)); range(seats >= 0 && seats <= 12); change();
    now.schools.get(school).seats = seats;
    return fill();
  }
  int setRadius(int school, int radius) {
    index(isSchool(school)); range(radius >= 0 && radius <= 198); change();
    int old = now.schools.get(school).radius;
    now.schools.get(school).radius = radius;
    return old;
  }
  int setRule(int school, int rule) {
    index(isSchool(school)); range(rule == 0 || rule == 1); change();
    int old = now.schools.get(school).rule;
    now.schools.get(school).rule = rule;
    return old;
  }
  int setLimit(int school, int limit) {
    index(isSchool(school)); range(limit >= 0 && limit <= 100); change();
    int old = now.schools.get(school).limit;
    now.schools.get(school).limit = limit;
    return old;
  }
  boolean setPupils(int family, int school, boolean has) {
    index(family >= 0 && family < 12 && isSchool(school)); change();
    String key = family + "/" + school;
    return has ? !now.pupils.add(key) : now.pupils.remove(key);
  }
  int school(int school, int what) {
    index(isSchool(school)); range(what >= 0 && what <= 8);
    S s = now.schools.get(school);
    int catchment = 0;
    for (C c : now.children) if (distance(c, s) <= s.radius) catchment++;
    return new int[] {s.seats, s.radius, s.rule, s.limit, s.added, holders(school).size(), free(school),
        waiters(school).size(), catchment}[what];
  }
  int held(int school, int index) {
    index(isSchool(school));
    element(index >= 0 && index < holders(school).size());
    return holders(school).get(index).number;
  }
  int waiting(int school, int index) {
    index(isSchool(school));
    element(index >= 0 && index < waiters(school).size());
    return waiters(school).get(index).number;
  }
  int addChild(int x, int y, int family, int lot) {
    range(x >= 0 && x <= 99 && y >= 0 && y <= 99 && family >= 0 && family <= 11 && lot >= 0 && lot <= 999);
    state(now.children.size() < 24);
    change();
    C c = new C();
    c.number = now.children.size(); c.x = x; c.y = y; c.family = family; c.lot = lot;
    now.children.add(c);
    return c.number;
  }
  int readChild() {
    String text = input;
    input = "";
    int wrong = wrongAt(text);
    if (wrong >= 0) error = wrong;
    range(wrong < 0);
    String[] parts = text.split("[,fl:]");
    String choices = parts.length == 5 ? parts[4] : "";
    for (char c : choices.toCharArray()) range(isSchool(c - '0'));
    int number = addChild(Integer.parseInt(parts[0]), Integer.parseInt(parts[1]), Integer.parseInt(parts[2]),
        Integer.parseInt(parts[3]));
    for (char c : choices.toCharArray()) now.children.get(number).choices.add(c - '0');
    return number;
  }
  int choose(int child, int school, int place) {
    index(isChild(child) && isSchool(school));
    List<Integer> others = new ArrayList<>(now.children.get(child).choices);
    others.remove((Integer) school);
    range(place >= 0 && place <= others.size());
    state(others.size() < 4);
    change();
    others.add(place, school);
    now.children.get(child).choices = others;
    return others.size();
  }
  int setNeed(int child, int school) {
    index(isChild(child) && (school == -1 || isSchool(school))); change();
    int old = now.children.get(child).need;
    now.children.get(child).need = school;
    return old;
  }
  int child(int child, int what) {
    index(isChild(child)); range(what >= 0 && what <= 7);
    C c = now.children.get(child);
    return new int[] {c.family, c.lot, c.need, c.choices.size(), c.seat, c.choices.indexOf(c.seat), bits(c.marks),
        bits(c.appeals)}[what];
  }
  int choice(int child, int place) {
    index(isChild(child));
    element(place >= 0 && place < now.children.get(child).choices.size());
    return now.children.get(child).choices.get(place);
  }
  int rank(int child, int school, int what) {
    index(isChild(child) && isSchool(school)); range(what >= 0 && what <= 4);
    C c = now.children.get(child);
    int better = 0;
    for (C h : holders(school)) if (ranks(school).compare(h, c) < 0) better++;
    return new int[] {classAt(c, school), distance(c, now.schools.get(school)), sibling(c, school) ? 1 : 0,
        prefers(c, school) ? 1 : 0, better}[what];
  }
  int why(int child, int school) {
    index(isChild(child) && isSchool(school));
    C c = now.children.get(child);
    if (c.seat == school) return 0;
    if (!c.choices.contains(school)) return 1;
    if (c.seat >= 0 && c.choices.contains(c.seat) && c.choices.indexOf(c.seat) < c.choices.indexOf(school)) return 2;
    if (free(school) > 0) return 3;
    boolean same = false;
    for (C h : holders(school)) {
      if (classAt(h, school) >= classAt(c, school) && ranks(school).compare(h, c) > 0) return 4;
      same |= classAt(h, school) == classAt(c, school);
    }
    return same ? 5 : 6;
  }
  int allocate() {
    change();
    int[] old = seats();
    for (S s : now.schools) s.added = 0;
    for (C c : now.children) c.appeals.clear();
    int rounds = rounds();
    for (C c : now.children) {
      if (c.seat != old[c.number]) now.journal.add(new int[] {0, c.number, old[c.number], c.seat});
    }
    return rounds;
  }
  int again(int child) {
    index(isChild(child));
    State real = now;
    now = copy(real);
    rounds();
    int seat = now.children.get(child).seat;
    now = real;
    return seat;
  }
  int unstable() {
    int pairs = 0;
    for (int s = 0; s < now.schools.size(); s++) {
      for (C c : waiters(s)) {
        boolean worse = free(s) > 0;
        for (C h : holders(s)) worse |= ranks(s).compare(h, c) > 0;
        if (worse) pairs++;
      }
    }
    return pairs;
  }
  int withdraw(int child) {
    index(isChild(child));
    if (now.children.get(child).seat < 0) throw new UnsupportedOperationException();
    change();
    C c = now.children.get(child);
    now.journal.add(new int[] {3, child, c.seat, -1});
    c.seat = -1;
    c.choices = new ArrayList<>();
    return fill();
  }
  int appeal(int child, int school, int strength) {
    index(isChild(child) && isSchool(school)); range(strength >= 0 && strength <= 100);
    C c = now.children.get(child);
    S s = now.schools.get(school);
    if (!prefers(c, school)) refuse(1);
    if (c.appeals.contains(school)) refuse(2);
    change();
    now.children.get(child).appeals.add(school);
    if (s.added == 3) refuse(3);
    if (strength < s.limit + 5 * waiters(school).indexOf(c)) refuse(4);
    s.added++;
    now.journal.add(new int[] {2, child, c.seat, school});
    c.seat = school;
    return fill();
  }
  int reason() { element(reason > 0); return reason; }
  int entry(int entry, int what) {
    element(entry >= 0 && entry < 80 && entry < now.journal.size()); range(what >= 0 && what <= 3);
    return now.journal.get(entry)[what];
  }
  int account(int what) {
    range(what >= 0 && what <= 10);
    int[] all = new int[11];
    all[0] = now.schools.size();
    all[1] = now.children.size();
    for (S s : now.schools) { all[2] += s.seats; all[3] += s.added; }
    for (C c : now.children) {
      if (c.seat >= 0) { all[4]++; all[7] += distance(c, now.schools.get(c.seat)); }
      if (c.seat >= 0 && c.choices.indexOf(c.seat) == 0) all[5]++;
      if (c.seat < 0 && !c.choices.isEmpty()) all[6]++;
    }
    all[8] = now.journal.size();
    all[9] = before.size();
    all[10] = input.length();
    return all[what];
  }
  double meanDistance() {
    if (account(4) == 0) throw new ArithmeticException();
    return (double) account(7) / (double) account(4);
  }
  int feed(char character) { state(input.length() < 40); input += character; return input.length(); }
  int errorPosition() { element(error >= 0); return error; }
  int undo() {
    state(!before.isEmpty());
    now = before.remove(before.size() - 1);
    return before.size();
  }
  int save() { kept = copy(now); return account(4); }
  int restore() { state(kept != null); now = copy(kept); before.clear(); return account(4); }

  // ---- what the words mean

  private boolean sibling(C c, int school) {
    return now.pupils.contains(c.family + "/" + school) || c.marks.contains(school);
  }
  private int classAt(C c, int school) {
    S s = now.schools.get(school);
    boolean near = distance(c, s) <= s.radius;
    if (c.need == school) return 0;
    if (s.rule == 0) return near ? (sibling(c, school) ? 1 : 2) : (sibling(c, school) ? 3 : 4);
    return sibling(c, school) ? 1 : near ? 2 : 4;
  }
  private Comparator<C> ranks(int school) {
    S s = now.schools.get(school);
    return Comparator.<C>comparingInt(c -> classAt(c, school)).thenComparingInt(c -> distance(c, s))
        .thenComparingInt(c -> c.lot).thenComparingInt(c -> c.number);
  }
  private static int distance(C c, S s) { return Math.abs(c.x - s.x) + Math.abs(c.y - s.y); }
  private static boolean prefers(C c, int school) {
    if (!c.choices.contains(school)) return false;
    return c.seat < 0 || !c.choices.contains(c.seat) || c.choices.indexOf(school) < c.choices.indexOf(c.seat);
  }
  private List<C> holders(int school) {
    List<C> list = new ArrayList<>();
    for (C c : now.children) if (c.seat == school) list.add(c);
    list.sort(ranks(school));
    return list;
  }
  private List<C> waiters(int school) {
    List<C> list = new ArrayList<>();
    for (C c : now.children) if (prefers(c, school)) list.add(c);
    list.sort(ranks(school));
    return list;
  }
  private int free(int school) {
    S s = now.schools.get(school);
    return Math.max(0, s.seats + s.added - holders(school).size());
  }
  private int fill() {
    int got = 0;
    for (int s = 0; s < now.schools.size(); s++) {
      if (free(s) == 0 || waiters(s).isEmpty()) continue;
      C c = waiters(s).get(0);
      now.journal.add(new int[] {1, c.number, c.seat, s});
      c.seat = s;
      got++;
      s = -1;
    }
    return got;
  }
  private int rounds() {
    for (C c : now.children) c.marks.clear();
    for (int rounds = 1; ; rounds++) {
      round();
      boolean news = false;
      for (C c : now.children) {
        for (C other : now.children) {
          if (c != other && c.family == other.family && c.choices.contains(other.seat)) news |= c.marks.add(other.seat);
        }
      }
      if (!news) return rounds;
    }
  }
  /** All without a seat ask at once, and each school keeps the best: the order of asking makes no difference. */
  private void round() {
    int[] asked = new int[24];
    for (C c : now.children) c.seat = -1;
    boolean again = true;
    while (again) {
      again = false;
      for (C c : now.children) {
        if (c.seat < 0 && asked[c.number] < c.choices.size()) { c.seat = c.choices.get(asked[c.number]++); again = true; }
      }
      for (int s = 0; s < now.schools.size(); s++) {
        List<C> all = holders(s);
        for (int i = now.schools.get(s).seats; i < all.size(); i++) all.get(i).seat = -1;
      }
    }
  }
  private static int wrongAt(String text) {
    int length = text.length();
    while (!isBeginning(text.substring(0, length))) length--;
    if (length < text.length()) return length;
    return WHOLE.matcher(text).matches() ? -1 : length;
  }
  private static boolean isBeginning(String text) {
    if (!BEGINNING.matcher(text).matches()) return false;
    String choices = text.substring(text.indexOf(':') + 1);
    return text.indexOf(':') < 0 || choices.chars().distinct().count() == choices.length();
  }
  private static int bits(TreeSet<Integer> set) { int all = 0; for (int i : set) all += 1 << i; return all; }
  private int[] seats() { int[] all = new int[24]; for (C c : now.children) all[c.number] = c.seat; return all; }
  private boolean isSchool(int number) { return number >= 0 && number < now.schools.size(); }
  private boolean isChild(int number) { return number >= 0 && number < now.children.size(); }

  private void refuse(int why) { reason = why; throw new IllegalStateException(); }
  private static void index(boolean right) { if (!right) throw new IndexOutOfBoundsException(); }
  private static void range(boolean right) { if (!right) throw new IllegalArgumentException(); }
  private static void state(boolean right) { if (!right) throw new IllegalStateException(); }
  private static void element(boolean right) { if (!right) throw new NoSuchElementException(); }

  private void change() {
    before.add(copy(now));
    if (before.size() > 8) before.remove(0);
  }
  private static State copy(State from) {
    State to = new State();
    to.pupils.addAll(from.pupils);
    to.journal.addAll(from.journal);
    for (S a : from.schools) {
      S b = new S();
      b.x = a.x; b.y = a.y; b.seats = a.seats; b.radius = a.radius; b.rule = a.rule; b.limit = a.limit; b.added = a.added;
      to.schools.add(b);
    }
    for (C a : from.children) {
      C b = new C();
      b.number = a.number; b.x = a.x; b.y = a.y; b.family = a.family; b.lot = a.lot; b.need = a.need; b.seat = a.seat;
      b.choices.addAll(a.choices); b.marks.addAll(a.marks); b.appeals.addAll(a.appeals);
      to.children.add(b);
    }
    return to;
  }
}
