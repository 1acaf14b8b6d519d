import java.util.NoSuchElementException;

/** For each promise of the document: ordinary inputs, the edges that it names, and wrong inputs. */
public final class PromiseTests extends Checks {
  public static void main(String[] args) {
    Call[] all = {PromiseTests::newObject, PromiseTests::addSchool, PromiseTests::setSeats, PromiseTests::setRadius,
      PromiseTests::setRule, PromiseTests::setLimit, PromiseTests::setPupils, PromiseTests::school, PromiseTests::held,
      PromiseTests::waiting, PromiseTests::addChild, PromiseTests::readChild, PromiseTests::choose, PromiseTests::setNeed,
      PromiseTests::child, PromiseTests::choice, PromiseTests::rank, PromiseTests::why, PromiseTests::allocate,
      PromiseTests::again, PromiseTests::unstable, PromiseTests::withdraw, PromiseTests::appeal, PromiseTests::reason,
      PromiseTests::entry, PromiseTests::account, PromiseTests::meanDistance, PromiseTests::feed,
      PromiseTests::errorPosition, PromiseTests::undo, PromiseTests::save, PromiseTests::restore};
    for (int i = 0; i < all.length; i++) {
      about = "promise " + (i + 1);
      all[i].make();
    }
    System.out.println(wrong == 0 ? "PromiseTests: all promises hold" : "PromiseTests: " + wrong + " answers are wrong");
    if (wrong != 0) System.exit(1);
  }

  // ---- schools and families

  private static void newObject() {
    SchoolPlaces p = new SchoolPlaces();
    for (int what = 0; what <= 10; what++) due(p.account(what), 0);
    due(p.unstable(), 0);
    due(p.allocate(), 1);
    due(p.account(8), 0);
    SchoolPlaces other = new SchoolPlaces();
    other.addSchool(1, 1, 1, 1);
    due(p.account(0), 0);
  }

  private static void addSchool() {
    SchoolPlaces p = new SchoolPlaces();
    due(p.addSchool(3, 4, 5, 6), 0);
    due(p.school(0, 0), 5);
    due(p.school(0, 1), 6);
    due(p.school(0, 2), 0);
    due(p.school(0, 3), 50);
    due(p.school(0, 4), 0);
    due(p.addSchool(0, 0, 0, 0), 1);
    due(p.addSchool(99, 99, 12, 198), 2);
    p.addChild(0, 99, 0, 0);
    due(p.rank(0, 0, 1), 98);
    due(p.rank(0, 1, 1), 99);
    due(p.rank(0, 2, 1), 99);
    int[][] bad = {{-1, 0, 0, 0}, {100, 0, 0, 0}, {0, -1, 0, 0}, {0, 100, 0, 0}, {0, 0, -1, 0}, {0, 0, 13, 0},
      {0, 0, 0, -1}, {0, 0, 0, 199}, {LEAST, 0, 0, 0}, {0, MOST, 0, 0}, {0, 0, MOST, 0}, {0, 0, 0, LEAST}};
    for (int[] b : bad) dueArgument(p, () -> p.addSchool(b[0], b[1], b[2], b[3]));
    for (int i = 3; i < 6; i++) due(p.addSchool(i, i, 1, 1), i);
    dueState(p, () -> p.addSchool(0, 0, 0, 0));
    dueArgument(p, () -> p.addSchool(0, 0, 13, 0));
    due(p.account(0), 6);
    // a school that is added after an undo begins anew
    p.setRule(5, 1);
    p.setLimit(5, 7);
    p.undo();
    p.undo();
    p.undo();
    due(p.addSchool(9, 9, 9, 9), 5);
    due(p.school(5, 2), 0);
    due(p.school(5, 3), 50);
  }

  private static void setSeats() {
    SchoolPlaces p = desk("110");
    read(p, "0,0f0l0:0");
    read(p, "1,0f1l0:01");
    read(p, "2,0f2l0:012");
    p.allocate();
    due(seats(p), "0 1 -1");
    // a seat at school 0 goes to child 1, whose seat goes to child 2: two seats
    due(p.setSeats(0, 2), 2);
    due(seats(p), "0 0 1");
    due(entryOf(p, 2), "1:1:1:0");
    due(entryOf(p, 3), "1:2:-1:1");
    due(p.account(8), 4);
    due(p.school(0, 0), 2);
    // fewer seats than children: they keep them
    due(p.setSeats(0, 0), 0);
    due(seats(p), "0 0 1");
    due(p.school(0, 6), 0);
    due(p.setSeats(0, 12), 1);
    due(seats(p), "0 0 0");
    dueIndex(p, () -> p.setSeats(3, 1));
    dueIndex(p, () -> p.setSeats(-1, 1));
    dueIndex(p, () -> p.setSeats(3, 13));
    dueArgument(p, () -> p.setSeats(0, 13));
    dueArgument(p, () -> p.setSeats(0, -1));
    setSeatsElsewhere();
    setSeatsOneByOne();
  }

  /** Seats are filled at all schools, also if the school itself holds more than its seats. */
  private static void setSeatsElsewhere() {
    SchoolPlaces p = desk("21");
    read(p, "0,0f0l0:0");
    read(p, "1,0f1l0:0");
    p.allocate();
    read(p, "2,0f2l0:1");
    due(p.school(1, 7), 1);
    due(p.setSeats(0, 1), 1);
    due(seats(p), "0 0 1");
  }

  /** One child climbs from school to school, and each seat that it gets counts; the lowest school comes first. */
  private static void setSeatsOneByOne() {
    SchoolPlaces p = desk("001");
    read(p, "0,0f0l0:210");
    p.setSeats(2, 0);
    due(p.setSeats(1, 0), 0);
    due(p.setSeats(0, 1), 1);
    due(p.setSeats(1, 1), 1);
    due(p.setSeats(2, 1), 1);
    due(entryOf(p, 2), "1:0:1:2");
    SchoolPlaces q = desk("111");
    read(q, "0,0f0l0:210");
    read(q, "5,0f1l0:0");
    due(q.setSeats(0, 1), 4);
    due(entryOf(q, 0), "1:0:-1:0");
    due(entryOf(q, 1), "1:0:0:1");
    due(entryOf(q, 2), "1:1:-1:0");
    due(entryOf(q, 3), "1:0:1:2");
    due(q.account(8), 4);
  }

  private static void setRadius() {
    SchoolPlaces p = desk("1");
    p.addChild(21, 0, 0, 0);
    due(p.rank(0, 0, 0), 4);
    due(p.setRadius(0, 21), 20);
    due(p.rank(0, 0, 0), 2);
    due(p.setRadius(0, 0), 21);
    due(p.setRadius(0, 198), 0);
    due(p.school(0, 1), 198);
    dueIndex(p, () -> p.setRadius(1, 0));
    dueIndex(p, () -> p.setRadius(-1, 199));
    dueArgument(p, () -> p.setRadius(0, 199));
    dueArgument(p, () -> p.setRadius(0, -1));
  }

  private static void setRule() {
    SchoolPlaces p = desk("1");
    p.addChild(50, 0, 3, 0);
    p.setPupils(3, 0, true);
    due(p.rank(0, 0, 0), 3);
    due(p.setRule(0, 1), 0);
    due(p.rank(0, 0, 0), 1);
    due(p.setRule(0, 1), 1);
    due(p.setRule(0, 0), 1);
    due(p.school(0, 2), 0);
    due(p.account(9), 6);
    dueIndex(p, () -> p.setRule(1, 0));
    dueIndex(p, () -> p.setRule(-1, 2));
    dueArgument(p, () -> p.setRule(0, 2));
    dueArgument(p, () -> p.setRule(0, -1));
  }

  private static void setLimit() {
    SchoolPlaces p = desk("1");
    due(p.setLimit(0, 100), 50);
    due(p.setLimit(0, 0), 100);
    due(p.setLimit(0, 33), 0);
    due(p.school(0, 3), 33);
    dueIndex(p, () -> p.setLimit(1, 0));
    dueIndex(p, () -> p.setLimit(-1, 101));
    dueArgument(p, () -> p.setLimit(0, 101));
    dueArgument(p, () -> p.setLimit(0, -1));
  }

  private static void setPupils() {
    SchoolPlaces p = desk("111111");
    p.addChild(0, 0, 11, 0);
    p.addChild(0, 0, 10, 0);
    due(p.setPupils(11, 5, true), false);
    due(p.setPupils(11, 5, true), true);
    due(p.rank(0, 5, 2), 1);
    due(p.rank(0, 4, 2), 0);
    due(p.rank(1, 5, 2), 0);
    due(p.setPupils(11, 0, true), false);
    due(p.setPupils(11, 5, false), true);
    due(p.setPupils(11, 5, false), false);
    due(p.rank(0, 5, 2), 0);
    due(p.rank(0, 0, 2), 1);
    due(p.account(4), 0);
    due(p.account(9), 8);
    dueIndex(p, () -> p.setPupils(12, 0, true));
    dueIndex(p, () -> p.setPupils(-1, 0, true));
    dueIndex(p, () -> p.setPupils(0, 6, true));
    dueIndex(p, () -> p.setPupils(0, -1, false));
    dueIndex(p, () -> p.setPupils(MOST, LEAST, false));
  }

  private static void school() {
    SchoolPlaces p = desk("21");
    p.setRule(1, 1);
    p.setLimit(0, 5);
    read(p, "0,20f0l0:0");
    read(p, "0,21f1l0:0");
    read(p, "9,9f2l0:01");
    read(p, "9,9f3l0");
    p.allocate();
    long[] due = {2, 20, 0, 5, 0, 2, 0, 1, 3};
    for (int what = 0; what <= 8; what++) due(p.school(0, what), due[what]);
    due(p.school(1, 6), 1);
    due(p.school(1, 2), 1);
    p.appeal(1, 0, 100);
    due(p.school(0, 4), 1);
    due(p.school(0, 5), 3);
    due(p.school(0, 6), 0);
    p.withdraw(1);
    due(p.school(0, 6), 1);
    due(p.school(0, 5), 2);
    dueIndex(p, () -> p.school(2, 0));
    dueIndex(p, () -> p.school(-1, 9));
    dueArgument(p, () -> p.school(0, 9));
    dueArgument(p, () -> p.school(0, -1));
  }

  private static void held() {
    SchoolPlaces p = desk("4");
    read(p, "3,0f0l9:0");
    read(p, "2,0f1l9:0");
    read(p, "0,3f2l8:0");
    read(p, "3,0f3l9:0");
    p.allocate();
    due(list(p, 0, true), "1 2 0 3");
    p.setNeed(3, 0);
    due(list(p, 0, true), "3 1 2 0");
    dueIndex(p, () -> p.held(1, 0));
    dueIndex(p, () -> p.held(-1, -1));
    dueNone(p, () -> p.held(0, 4));
    dueNone(p, () -> p.held(0, -1));
    dueNone(p, () -> p.held(0, MOST));
  }

  private static void waiting() {
    SchoolPlaces p = desk("01");
    read(p, "3,0f0l9:0");
    read(p, "2,0f1l9:10");
    read(p, "2,0f2l8:0");
    read(p, "9,0f3l8:01");
    p.setNeed(3, 1);
    p.allocate();
    due(seats(p), "-1 -1 -1 1");
    due(list(p, 0, false), "2 1 0 3");
    p.setPupils(0, 0, true);
    due(list(p, 0, false), "0 2 1 3");
    p.choose(3, 1, 0);
    due(list(p, 0, false), "0 2 1");
    due(list(p, 1, false), "1");
    dueIndex(p, () -> p.waiting(2, 0));
    dueIndex(p, () -> p.waiting(-1, -1));
    dueNone(p, () -> p.waiting(0, 3));
    dueNone(p, () -> p.waiting(0, -1));
    dueNone(p, () -> p.waiting(0, LEAST));
  }

  // ---- children

  private static void addChild() {
    SchoolPlaces p = desk("1");
    due(p.addChild(0, 99, 11, 999), 0);
    due(p.child(0, 0), 11);
    due(p.child(0, 1), 999);
    due(p.child(0, 2), -1);
    due(p.child(0, 3), 0);
    due(p.child(0, 4), -1);
    due(p.child(0, 6), 0);
    due(p.child(0, 7), 0);
    due(p.addChild(99, 0, 0, 0), 1);
    due(p.rank(0, 0, 1), 99);
    due(p.rank(1, 0, 1), 99);
    int[][] bad = {{-1, 0, 0, 0}, {100, 0, 0, 0}, {0, -1, 0, 0}, {0, 100, 0, 0}, {0, 0, -1, 0}, {0, 0, 12, 0},
      {0, 0, 0, -1}, {0, 0, 0, 1000}, {MOST, 0, 0, 0}, {0, LEAST, 0, 0}, {0, 0, MOST, 0}, {0, 0, 0, LEAST}};
    for (int[] b : bad) dueArgument(p, () -> p.addChild(b[0], b[1], b[2], b[3]));
    for (int i = 2; i < 24; i++) due(p.addChild(i, i, 1, i), i);
    dueState(p, () -> p.addChild(0, 0, 0, 0));
    dueArgument(p, () -> p.addChild(0, 0, 12, 0));
    // a child that is added after an undo begins anew
    p.choose(23, 0, 0);
    p.setNeed(23, 0);
    p.allocate();
    due(p.child(23, 4), 0);
    for (int i = 0; i < 4; i++) p.undo();
    due(p.addChild(5, 5, 5, 5), 23);
    due(p.child(23, 2), -1);
    due(p.child(23, 3), 0);
    due(p.child(23, 4), -1);
  }

  private static void readChild() {
    SchoolPlaces p = desk("111111");
    due(read(p, "099,008f011l999:5024"), 0);
    due(p.account(10), 0);
    due(p.child(0, 0), 11);
    due(p.child(0, 1), 999);
    due(choices(p, 0), "5024");
    due(p.rank(0, 0, 1), 107);
    due(p.child(0, 2), -1);
    due(p.account(9), 7);
    due(read(p, "0,0f0l0"), 1);
    due(p.child(1, 3), 0);
    due(p.undo(), 7);
    due(p.account(1), 1);
    due(p.account(10), 0);
    dueThrow(NoSuchElementException.class, p::errorPosition);
    for (String text : new String[] {"100,0f0l0", "0,100f0l0", "0,0f12l0", "999,999f999l999:0"}) {
      feed(p, text);
      dueThrow(IllegalArgumentException.class, p::readChild);
      due(p.account(10), 0);
      due(p.account(1), 1);
      due(p.account(9), 7);
      dueThrow(NoSuchElementException.class, p::errorPosition);
    }
    SchoolPlaces few = desk("11");
    feed(few, "0,0f0l0:12");
    dueThrow(IllegalArgumentException.class, few::readChild);
    due(few.account(10), 0);
    due(few.account(9), 2);
    due(few.account(1), 0);
    dueThrow(NoSuchElementException.class, few::errorPosition);
    dueWrongText(few, "", 0);
    dueWrongText(few, "0,0f0l0:", 8);
    readChildWhenFull(few);
  }

  private static void readChildWhenFull(SchoolPlaces p) {
    for (int i = 0; i < 24; i++) due(read(p, "1,2f3l4:10"), i);
    due(choices(p, 23), "10");
    feed(p, "1,2f3l4");
    dueThrow(IllegalStateException.class, p::readChild);
    due(p.account(10), 0);
    due(p.account(1), 24);
    feed(p, "1,2f3l4:5");
    dueThrow(IllegalArgumentException.class, p::readChild);
    feed(p, "1,2f99l4");
    dueThrow(IllegalArgumentException.class, p::readChild);
    dueWrongText(p, "x", 0);
    due(p.account(9), 8);
  }

  private static void choose() {
    SchoolPlaces p = desk("111111");
    p.addChild(0, 0, 0, 0);
    due(p.choose(0, 5, 0), 1);
    due(p.choose(0, 4, 0), 2);
    due(p.choose(0, 3, 1), 3);
    due(choices(p, 0), "435");
    due(p.choose(0, 4, 2), 3);
    due(choices(p, 0), "354");
    due(p.choose(0, 4, 0), 3);
    due(p.choose(0, 3, 1), 3);
    due(choices(p, 0), "435");
    dueArgument(p, () -> p.choose(0, 4, 3));
    due(p.choose(0, 0, 3), 4);
    due(p.choose(0, 0, 0), 4);
    due(p.choose(0, 3, 3), 4);
    due(choices(p, 0), "0453");
    dueArgument(p, () -> p.choose(0, 3, 4));
    dueArgument(p, () -> p.choose(0, 3, -1));
    dueArgument(p, () -> p.choose(0, 1, 5));
    dueArgument(p, () -> p.choose(0, 1, -1));
    for (int place = 0; place <= 4; place++) {
      int at = place;
      dueState(p, () -> p.choose(0, 1, at));
    }
    dueIndex(p, () -> p.choose(1, 0, 0));
    dueIndex(p, () -> p.choose(-1, 0, 9));
    dueIndex(p, () -> p.choose(0, 6, 0));
    dueIndex(p, () -> p.choose(0, -1, 9));
    // preferences change, but no seats are filled
    p.allocate();
    due(p.child(0, 4), 0);
    p.choose(0, 4, 0);
    due(p.child(0, 4), 0);
    due(p.child(0, 5), 1);
    due(p.school(4, 7), 1);
    due(p.account(9), 8);
  }

  private static void setNeed() {
    SchoolPlaces p = desk("11");
    p.addChild(99, 99, 0, 0);
    due(p.setNeed(0, 1), -1);
    due(p.child(0, 2), 1);
    due(p.rank(0, 1, 0), 0);
    due(p.rank(0, 0, 0), 4);
    due(p.setNeed(0, 0), 1);
    due(p.setNeed(0, -1), 0);
    due(p.setNeed(0, -1), -1);
    due(p.child(0, 2), -1);
    due(p.account(9), 7);
    dueIndex(p, () -> p.setNeed(1, 0));
    dueIndex(p, () -> p.setNeed(-1, 0));
    dueIndex(p, () -> p.setNeed(0, 2));
    dueIndex(p, () -> p.setNeed(0, -2));
  }

  private static void child() {
    SchoolPlaces p = desk("101");
    read(p, "0,0f7l77:120");
    read(p, "0,0f7l78:02");
    p.setNeed(0, 1);
    p.allocate();
    // both get their seats in the first round; then each is marked where the other is
    long[] due = {7, 77, 1, 3, 2, 1, 1, 0};
    for (int what = 0; what <= 7; what++) due(p.child(0, what), due[what]);
    due(p.child(1, 5), 0);
    due(p.child(1, 6), 4);
    dueThrow(IllegalStateException.class, () -> p.appeal(0, 1, 0));
    due(p.child(0, 7), 2);
    p.withdraw(0);
    long[] later = {7, 77, 1, 0, -1, -1, 1, 2};
    for (int what = 0; what <= 7; what++) due(p.child(0, what), later[what]);
    dueIndex(p, () -> p.child(2, 0));
    dueIndex(p, () -> p.child(-1, 8));
    dueArgument(p, () -> p.child(0, 8));
    dueArgument(p, () -> p.child(0, -1));
  }

  private static void choice() {
    SchoolPlaces p = desk("1111");
    read(p, "0,0f0l0:3120");
    read(p, "0,0f0l0");
    int[] due = {3, 1, 2, 0};
    for (int place = 0; place < 4; place++) due(p.choice(0, place), due[place]);
    dueNone(p, () -> p.choice(0, 4));
    dueNone(p, () -> p.choice(0, -1));
    dueNone(p, () -> p.choice(1, 0));
    dueNone(p, () -> p.choice(0, MOST));
    dueIndex(p, () -> p.choice(2, 0));
    dueIndex(p, () -> p.choice(-1, -1));
  }

  private static void rank() {
    SchoolPlaces p = desk("3");
    p.addChild(20, 0, 0, 0);
    p.addChild(15, 5, 1, 0);
    p.addChild(21, 0, 2, 0);
    p.addChild(21, 0, 3, 0);
    p.setPupils(0, 0, true);
    p.setPupils(2, 0, true);
    int[] classes = {1, 2, 3, 4};
    for (int c = 0; c < 4; c++) due(p.rank(c, 0, 0), classes[c]);
    p.setRule(0, 1);
    int[] others = {1, 2, 1, 4};
    for (int c = 0; c < 4; c++) due(p.rank(c, 0, 0), others[c]);
    p.setNeed(3, 0);
    due(p.rank(3, 0, 0), 0);
    due(p.rank(1, 0, 1), 20);
    due(p.rank(2, 0, 1), 21);
    due(p.rank(0, 0, 2), 1);
    due(p.rank(1, 0, 2), 0);
    due(p.rank(0, 0, 3), 0);
    for (int c = 0; c < 4; c++) p.choose(c, 0, 0);
    due(p.rank(0, 0, 3), 1);
    p.allocate();
    due(seats(p), "0 -1 0 0");
    due(p.rank(0, 0, 3), 0);
    due(p.rank(1, 0, 3), 1);
    int[] better = {1, 3, 2, 0};
    for (int c = 0; c < 4; c++) due(p.rank(c, 0, 4), better[c]);
    dueIndex(p, () -> p.rank(4, 0, 0));
    dueIndex(p, () -> p.rank(-1, 0, 9));
    dueIndex(p, () -> p.rank(0, 1, 0));
    dueIndex(p, () -> p.rank(0, -1, 9));
    dueArgument(p, () -> p.rank(0, 0, 5));
    dueArgument(p, () -> p.rank(0, 0, -1));
    rankTies();
  }

  /** Class before distance, distance before lot, lot before number. */
  private static void rankTies() {
    SchoolPlaces p = new SchoolPlaces();
    p.addSchool(0, 0, 9, 100);
    read(p, "99,99f0l999:0");
    p.setNeed(0, 0);
    read(p, "1,0f1l999:0");
    read(p, "2,0f1l0:0");
    read(p, "0,2f1l1:0");
    read(p, "1,1f1l0:0");
    read(p, "99,1f1l999:0");
    read(p, "99,2f1l0:0");
    due(list(p, 0, false), "0 1 2 4 3 5 6");
    // the furthest child of a class, with the highest lot, comes before the nearest of the next one
    SchoolPlaces q = new SchoolPlaces();
    q.addSchool(0, 0, 9, 198);
    read(q, "0,0f0l0:0");
    read(q, "99,99f1l999:0");
    read(q, "99,99f2l999:0");
    q.setPupils(1, 0, true);
    due(list(q, 0, false), "1 0 2");
    q.setNeed(2, 0);
    due(list(q, 0, false), "2 1 0");
    q.setPupils(0, 0, true);
    due(list(q, 0, false), "2 0 1");
  }

  private static void why() {
    SchoolPlaces p = desk("1110");
    read(p, "0,0f0l0:01");
    read(p, "1,0f1l0:01");
    read(p, "2,0f2l0:012");
    p.allocate();
    due(seats(p), "0 1 2");
    due(p.why(0, 0), 0);
    due(p.why(0, 2), 1);
    due(p.why(0, 1), 2);
    due(p.why(2, 0), 5);
    p.setNeed(0, 0);
    due(p.why(2, 0), 6);
    p.choose(2, 3, 0);
    due(p.why(2, 3), 6);
    p.setNeed(2, 0);
    due(p.why(2, 0), 5);
    p.setNeed(0, -1);
    due(p.why(2, 0), 4);
    p.setNeed(2, -1);
    p.addChild(0, 0, 9, 0);
    p.choose(3, 1, 0);
    due(p.why(3, 1), 4);
    p.addChild(10, 0, 9, 0);
    p.choose(4, 1, 0);
    due(p.why(4, 1), 5);
    p.addSchool(50, 50, 1, 0);
    p.choose(4, 4, 1);
    due(p.why(4, 4), 3);
    p.setNeed(4, 0);
    p.choose(4, 0, 0);
    due(p.why(4, 0), 4);
    dueIndex(p, () -> p.why(5, 0));
    dueIndex(p, () -> p.why(-1, 0));
    dueIndex(p, () -> p.why(0, 5));
    dueIndex(p, () -> p.why(0, -1));
  }

  // ---- allocating

  private static void allocate() {
    SchoolPlaces p = desk("110");
    read(p, "0,0f0l0:01");
    read(p, "0,1f1l0:10");
    read(p, "0,2f4l0:01");
    read(p, "0,0f2l0:2");
    read(p, "0,0f3l0");
    due(p.allocate(), 1);
    due(seats(p), "0 1 -1 -1 -1");
    due(p.account(8), 2);
    due(entryOf(p, 0), "0:0:-1:0");
    due(entryOf(p, 1), "0:1:-1:1");
    due(p.allocate(), 1);
    due(p.account(8), 2);
    // two seats are lost, one is got: entries in ascending order of the children
    p.setNeed(2, 0);
    p.setSeats(1, 0);
    due(p.allocate(), 1);
    due(seats(p), "-1 -1 0 -1 -1");
    due(entryOf(p, 2), "0:0:0:-1");
    due(entryOf(p, 3), "0:1:1:-1");
    due(entryOf(p, 4), "0:2:-1:0");
    due(p.account(8), 5);
    // a seat at another school
    p.choose(2, 1, 0);
    p.setSeats(1, 1);
    p.setSeats(0, 0);
    p.setNeed(2, 1);
    due(seats(p), "1 -1 0 -1 -1");
    p.allocate();
    due(seats(p), "-1 -1 1 -1 -1");
    due(entryOf(p, 6), "0:0:1:-1");
    due(entryOf(p, 7), "0:2:0:1");
    allocateSiblings();
    allocateClears();
    allocateWithNothing();
  }

  /** A sibling's mark moves another child in the second round, and the marks of both rounds stay. */
  private static void allocateSiblings() {
    SchoolPlaces p = desk("21");
    read(p, "0,0f0l0:0");
    read(p, "9,9f0l0:01");
    read(p, "0,5f1l0:01");
    // the rounds end with 0 1 0, where child 1 is marked, 0 0 1, where child 0 is marked, and 0 0 1
    due(p.allocate(), 3);
    due(seats(p), "0 0 1");
    due(p.child(1, 6), 1);
    due(p.child(0, 6), 1);
    due(p.rank(1, 0, 0), 1);
    due(p.account(8), 3);
    SchoolPlaces q = new SchoolPlaces();
    q.addSchool(10, 10, 1, 20);
    q.addSchool(60, 60, 1, 50);
    read(q, "10,12f0l5:01");
    read(q, "12,10f0l3:0");
    read(q, "90,90f1l7:10");
    due(q.allocate(), 3);
    due(seats(q), "-1 0 1");
    due(q.child(0, 6), 1);
    due(q.child(1, 6), 1);
    // children 0 and 2 mark each other in turn: the seats of the rounds are 0 1 -1, 1 -1 0, 0 -1 1 and 0 -1 1
    SchoolPlaces r = desk("11");
    read(r, "0,0f0l0:01");
    read(r, "0,1f1l0:10");
    read(r, "0,2f0l0:01");
    due(r.allocate(), 4);
    due(seats(r), "0 -1 1");
    due(r.child(0, 6), 3);
    due(r.child(1, 6), 0);
    due(r.child(2, 6), 3);
    due(r.account(8), 2);
    due(entryOf(r, 1), "0:2:-1:1");
  }

  /** Marks, added seats and appeals go; added seats do not count in rounds. */
  private static void allocateClears() {
    SchoolPlaces p = desk("1");
    p.setLimit(0, 0);
    read(p, "0,0f0l0:0");
    read(p, "1,0f0l0:0");
    read(p, "2,0f0l0:0");
    p.allocate();
    due(p.appeal(1, 0, 50), 0);
    dueThrow(IllegalStateException.class, () -> p.appeal(1, 0, 50));
    due(p.school(0, 5), 2);
    due(p.child(1, 7), 1);
    p.setPupils(0, 0, true);
    due(p.allocate(), 2);
    due(p.school(0, 4), 0);
    due(p.school(0, 5), 1);
    due(p.child(1, 7), 0);
    due(entryOf(p, 2), "0:1:0:-1");
    p.withdraw(0);
    due(seats(p), "-1 0 -1");
    due(p.child(1, 6), 1);
    p.allocate();
    due(p.child(1, 6), 0);
    due(p.child(2, 6), 1);
  }

  private static void allocateWithNothing() {
    SchoolPlaces p = new SchoolPlaces();
    p.addChild(0, 0, 0, 0);
    due(p.allocate(), 1);
    due(p.account(8), 0);
    due(p.account(9), 2);
    due(p.undo(), 1);
  }

  private static void again() {
    SchoolPlaces p = desk("12");
    read(p, "0,0f0l0:01");
    read(p, "0,1f1l0:01");
    read(p, "0,2f0l0:0");
    String before = Calls.everything(p);
    due(p.again(0), 0);
    due(p.again(1), 1);
    due(p.again(2), -1);
    due(Calls.everything(p), before);
    p.allocate();
    due(seats(p), "0 1 -1");
    p.setNeed(2, 0);
    due(p.again(2), 0);
    due(p.again(0), 1);
    due(p.child(0, 4), 0);
    // the second way begins without marks, and without added seats
    due(p.child(2, 6), 1);
    p.setNeed(2, -1);
    p.appeal(2, 0, 100);
    due(p.child(2, 4), 0);
    due(p.again(2), -1);
    p.withdraw(0);
    due(p.again(1), 0);
    dueIndex(p, () -> p.again(3));
    dueIndex(p, () -> p.again(-1));
    // it repeats rounds, too: child 1 gets its seat as a sibling only
    SchoolPlaces q = desk("21");
    read(q, "0,0f0l0:0");
    read(q, "9,9f0l0:01");
    read(q, "0,5f1l0:01");
    due(q.again(1), 0);
    due(q.again(2), 1);
  }

  private static void unstable() {
    SchoolPlaces p = desk("110");
    read(p, "0,0f0l0:01");
    read(p, "1,0f1l0:012");
    read(p, "2,0f2l0:012");
    due(p.unstable(), 6);
    p.allocate();
    due(p.unstable(), 0);
    p.setNeed(1, 0);
    due(p.unstable(), 1);
    p.setNeed(2, 0);
    due(p.unstable(), 2);
    p.setNeed(2, 1);
    due(p.unstable(), 2);
    p.addSchool(0, 0, 1, 1);
    p.choose(2, 3, 0);
    p.choose(1, 3, 2);
    due(p.unstable(), 3);
  }

  private static void withdraw() {
    SchoolPlaces p = desk("111");
    read(p, "0,0f0l0:0");
    read(p, "1,0f0l0:01");
    read(p, "2,0f2l0:012");
    read(p, "3,0f3l0:0");
    p.setNeed(0, 0);
    p.allocate();
    due(seats(p), "0 1 2 -1");
    dueThrow(p, UnsupportedOperationException.class, () -> p.withdraw(3));
    due(p.withdraw(0), 2);
    due(seats(p), "-1 0 1 -1");
    due(p.child(0, 3), 0);
    due(p.child(0, 2), 0);
    due(p.account(8), 6);
    due(entryOf(p, 3), "3:0:0:-1");
    due(entryOf(p, 4), "1:1:1:0");
    due(entryOf(p, 5), "1:2:2:1");
    due(p.child(1, 6), 1);
    dueThrow(p, UnsupportedOperationException.class, () -> p.withdraw(0));
    due(p.account(9), 8);
    p.setSeats(0, 0);
    due(p.withdraw(1), 0);
    due(p.child(1, 6), 1);
    due(p.undo(), 7);
    due(choices(p, 1), "01");
    due(p.child(1, 4), 0);
    dueIndex(p, () -> p.withdraw(4));
    dueIndex(p, () -> p.withdraw(-1));
  }

  private static void appeal() {
    SchoolPlaces p = desk("11");
    for (int i = 0; i < 7; i++) read(p, i + ",0f" + i + "l0:01");
    p.allocate();
    due(seats(p), "0 1 -1 -1 -1 -1 -1");
    dueIndex(p, () -> p.appeal(7, 0, 0));
    dueIndex(p, () -> p.appeal(-1, 0, 999));
    dueIndex(p, () -> p.appeal(0, 2, 0));
    dueIndex(p, () -> p.appeal(0, -1, 999));
    dueArgument(p, () -> p.appeal(2, 0, 101));
    dueArgument(p, () -> p.appeal(2, 0, -1));
    // child 2 stands behind child 1 on the list of school 0: 50 and 5
    dueRefused(p, 2, 0, 54, 4);
    due(p.child(2, 7), 1);
    dueRefused(p, 2, 0, 100, 2);
    dueRefused(p, 0, 0, 100, 1);
    dueRefused(p, 0, 1, 100, 1);
    due(p.child(0, 7), 0);
    due(p.appeal(3, 0, 60), 0);
    due(p.school(0, 4), 1);
    due(p.child(3, 4), 0);
    due(entryOf(p, 2), "2:3:-1:0");
    due(p.account(8), 3);
    // child 1 leaves school 1, where child 5 is the first by its need
    p.setNeed(5, 1);
    due(p.appeal(1, 0, 50), 1);
    due(entryOf(p, 3), "2:1:1:0");
    due(entryOf(p, 4), "1:5:-1:1");
    due(p.appeal(4, 0, 55), 0);
    due(p.school(0, 4), 3);
    dueRefused(p, 6, 0, 0, 3);
    due(p.child(6, 7), 1);
    dueRefused(p, 6, 0, 0, 2);
    dueRefused(p, 4, 1, 100, 1);
    due(p.account(3), 3);
    appealAsChange();
  }

  /** Appeals that are refused for reason 3 or 4 can be undone, the others make no change. */
  private static void appealAsChange() {
    SchoolPlaces p = desk("1");
    read(p, "0,0f0l0:0");
    read(p, "1,0f1l0:0");
    p.allocate();
    due(p.account(9), 4);
    dueRefused(p, 1, 0, 49, 4);
    due(p.account(9), 5);
    dueRefused(p, 1, 0, 49, 2);
    due(p.account(9), 5);
    dueRefused(p, 0, 0, 49, 1);
    due(p.account(9), 5);
    due(p.undo(), 4);
    due(p.child(1, 7), 0);
    due(p.reason(), 1);
    due(p.appeal(1, 0, 50), 0);
    due(p.account(9), 5);
    due(p.undo(), 4);
    due(p.school(0, 4), 0);
    due(seats(p), "0 -1");
    // an appeal can be made again after an allocation
    dueRefused(p, 1, 0, 0, 4);
    p.allocate();
    due(p.appeal(1, 0, 100), 0);
    // where the choices were changed, an appeal may meet a free seat, which is filled then
    SchoolPlaces q = desk("1");
    read(q, "0,0f0l0:0");
    read(q, "1,0f1l0:0");
    due(q.appeal(1, 0, 55), 1);
    due(seats(q), "0 0");
    due(q.child(1, 7), 1);
  }

  private static void reason() {
    SchoolPlaces p = desk("0");
    dueNone(p, p::reason);
    read(p, "0,0f0l0:0");
    p.addChild(0, 0, 0, 0);
    dueRefused(p, 0, 0, 0, 4);
    dueRefused(p, 0, 0, 0, 2);
    dueRefused(p, 1, 0, 0, 1);
    dueThrow(IllegalArgumentException.class, () -> p.appeal(0, 0, 101));
    due(p.reason(), 1);
    p.allocate();
    p.appeal(0, 0, 50);
    due(p.reason(), 1);
    p.save();
    dueRefused(p, 1, 0, 0, 1);
    p.undo();
    p.restore();
    due(p.reason(), 1);
  }

  // ---- journal and accounts

  private static void entry() {
    SchoolPlaces p = desk("10");
    dueNone(p, () -> p.entry(0, 0));
    read(p, "0,0f0l0:01");
    p.allocate();
    due(p.entry(0, 0), 0);
    due(p.entry(0, 1), 0);
    due(p.entry(0, 2), -1);
    due(p.entry(0, 3), 0);
    dueNone(p, () -> p.entry(1, 0));
    dueNone(p, () -> p.entry(-1, 0));
    dueNone(p, () -> p.entry(1, 4));
    dueNone(p, () -> p.entry(MOST, 0));
    dueArgument(p, () -> p.entry(0, 4));
    dueArgument(p, () -> p.entry(0, -1));
    for (int i = 0; i < 80; i++) {
      p.setSeats(i % 2, 0);
      p.setSeats(1 - i % 2, 1);
      p.allocate();
    }
    // every second turn: one move by filling towards the first choice; else by the allocation
    due(p.account(8), 81);
    due(entryOf(p, 79), p.entry(79, 0) + ":0:0:1");
    due(p.entry(79, 0), 0);
    due(p.entry(78, 0), 1);
    dueNone(p, () -> p.entry(80, 0));
    dueNone(p, () -> p.entry(80, 9));
    for (int i = 0; i < 8; i++) p.undo();
    due(p.account(8), 78);
    due(p.entry(77, 0), 0);
    dueNone(p, () -> p.entry(78, 0));
  }

  private static void account() {
    SchoolPlaces p = desk("121");
    read(p, "0,0f0l0:0");
    read(p, "1,0f1l0:01");
    read(p, "2,0f2l0:0");
    read(p, "3,0f3l0");
    read(p, "4,4f3l0:1");
    feed(p, "ab");
    p.allocate();
    long[] due = {3, 5, 4, 0, 3, 2, 1, 9, 3, 8, 2};
    for (int what = 0; what <= 10; what++) due(p.account(what), due[what]);
    p.appeal(2, 0, 55);
    due(p.account(3), 1);
    due(p.account(2), 4);
    due(p.account(4), 4);
    due(p.account(6), 0);
    due(p.account(7), 11);
    dueArgument(p, () -> p.account(11));
    dueArgument(p, () -> p.account(-1));
  }

  private static void meanDistance() {
    SchoolPlaces p = desk("3");
    dueThrow(p, ArithmeticException.class, p::meanDistance);
    read(p, "0,0f0l0:0");
    dueThrow(p, ArithmeticException.class, p::meanDistance);
    p.allocate();
    due(p.meanDistance() == 0.0, true);
    read(p, "4,0f0l0:0");
    read(p, "0,6f0l0:0");
    p.allocate();
    due(p.meanDistance() == 10.0 / 3.0, true);
    p.withdraw(0);
    due(p.meanDistance() == 5.0, true);
  }

  // ---- the input, undo and the snapshot

  private static void feed() {
    SchoolPlaces p = desk("1");
    for (int i = 1; i <= 40; i++) due(p.feed((char) (i * 1637)), i);
    due(p.account(10), 40);
    dueState(p, () -> p.feed('x'));
    due(p.account(9), 1);
    dueThrow(IllegalArgumentException.class, p::readChild);
    due(p.feed('1'), 1);
    feed(p, ",1f1l1");
    due(p.readChild(), 0);
    // signs whose lower eight bits are those of a digit or a comma are no digits and no commas
    dueWrongText(p, (char) ('1' + 256) + ",1f1l1", 0);
    dueWrongText(p, "1" + (char) (',' + 256) + "1f1l1", 1);
    dueWrongText(p, "\uff11,1f1l1", 0);
  }

  private static void errorPosition() {
    SchoolPlaces p = desk("111111");
    dueNone(p, p::errorPosition);
    String[] texts = {"", ",", "1", "12", "1234,", "1;", "1,", "1,x", "1,1234", "1,1", "1,1l", "1,1F", "1,1f", "1,1ff",
      "1,1f1", "1,1f1234", "1,1f1:", "1,1f1l", "1,1f1l:", "1,1f1l1234", "1,1f1l1;", "1,1f1l1:", "1,1f1l1:6",
      "1,1f1l1:9", "1,1f1l1:00", "1,1f1l1:010", "1,1f1l1:01234", "1,1f1l1:012 ", "1,1f1l1:0123 ", "1,1f1l1::", "-1,1",
      " 1,1f1l1", "1 ,1f1l1", "1,1f1l1 ", "1,1f1l1:0126", "1,1f1l1:0120", "1,1f1l1:01230"};
    int[] positions = {0, 0, 1, 2, 3, 1, 2, 2, 5, 3, 3, 3, 4, 4, 5, 7, 5, 6, 6, 9, 7, 8, 8, 8, 9, 10, 12, 11, 12, 8, 0, 0,
      1, 7, 11, 11, 12};
    for (int i = 0; i < texts.length; i++) dueWrongText(p, texts[i], positions[i]);
    dueWrongText(p, "1,1f1l1:5555555555555555555555555555555", 9);
    due(p.account(1), 0);
    // neither a right text nor a number out of range, nor an undo, changes it
    read(p, "1,1f1l1:5432");
    due(p.errorPosition(), 9);
    feed(p, "100,1f1l1");
    dueThrow(IllegalArgumentException.class, p::readChild);
    due(p.errorPosition(), 9);
    p.save();
    dueWrongText(p, "1,", 2);
    p.undo();
    p.restore();
    due(p.errorPosition(), 2);
  }

  private static void undo() {
    SchoolPlaces p = new SchoolPlaces();
    dueState(p, p::undo);
    String[] states = new String[14];
    int n = 0;
    states[n++] = Calls.everything(p);
    p.addSchool(0, 0, 1, 20);
    states[n++] = Calls.everything(p);
    p.addChild(5, 5, 5, 5);
    states[n++] = Calls.everything(p);
    read(p, "1,1f5l1:0");
    states[n++] = Calls.everything(p);
    p.choose(0, 0, 0);
    states[n++] = Calls.everything(p);
    p.setNeed(0, 0);
    states[n++] = Calls.everything(p);
    p.setPupils(5, 0, true);
    states[n++] = Calls.everything(p);
    due(p.undo(), 5);
    for (int left = 4; left >= 0; left--) {
      due(withoutUndos(Calls.everything(p)), withoutUndos(states[left + 1]));
      due(p.undo(), left);
    }
    due(withoutUndos(Calls.everything(p)), withoutUndos(states[0]));
    dueState(p, p::undo);
    undoOfMoves();
    undoEight();
  }

  private static void undoOfMoves() {
    SchoolPlaces p = desk("10");
    read(p, "0,0f0l0:0");
    read(p, "1,0f1l0:10");
    Call[] changes = {p::allocate, () -> p.setSeats(1, 1), () -> p.setRadius(0, 3), () -> p.setRule(0, 1),
      () -> p.setLimit(0, 99), () -> p.withdraw(0), () -> p.choose(0, 0, 0),
      () -> dueThrow(IllegalStateException.class, () -> p.appeal(0, 0, 0))};
    String[] states = new String[8];
    for (int i = 0; i < 8; i++) {
      states[i] = withoutUndos(Calls.everything(p));
      changes[i].make();
    }
    String reason = String.valueOf(p.reason());
    for (int i = 7; i >= 0; i--) {
      due(p.undo(), i);
      // the reason does not go back
      due(withoutUndos(Calls.everything(p)), states[i].replace("NoSuchElementException NoSuch", reason + " NoSuch"));
    }
    dueState(p, p::undo);
    read(p, "9,9f9l9:0");
    due(p.appeal(0, 0, 100), 1);
    due(p.account(8), 2);
    due(p.undo(), 1);
    due(p.school(0, 4), 0);
    due(p.account(8), 0);
  }

  private static void undoEight() {
    SchoolPlaces p = desk("1");
    for (int i = 0; i < 20; i++) p.setLimit(0, i);
    due(p.account(9), 8);
    feed(p, "12");
    due(p.undo(), 7);
    due(p.account(10), 2);
    due(p.school(0, 3), 18);
    p.setLimit(0, 77);
    p.setLimit(0, 78);
    due(p.account(9), 8);
    for (int i = 7; i >= 0; i--) due(p.undo(), i);
    due(p.school(0, 3), 12);
    dueState(p, p::undo);
    due(p.school(0, 3), 12);
    // calls that fail or only ask are no changes
    p.setLimit(0, 5);
    dueArgument(p, () -> p.setLimit(0, 101));
    p.save();
    p.unstable();
    due(p.undo(), 0);
  }

  private static void save() {
    SchoolPlaces p = desk("21");
    due(p.save(), 0);
    read(p, "0,0f0l0:0");
    read(p, "1,0f1l0:0");
    read(p, "2,0f2l0:0");
    p.allocate();
    String before = Calls.everything(p);
    due(p.save(), 2);
    due(Calls.everything(p), before);
    p.undo();
    p.undo();
    due(p.account(4), 0);
    due(p.save(), 0);
    p.restore();
    due(p.account(1), 2);
  }

  private static void restore() {
    SchoolPlaces p = desk("11");
    dueState(p, p::restore);
    for (int i = 0; i < 4; i++) read(p, i + ",0f" + i % 2 + "l0:0");
    p.setNeed(3, 1);
    p.setPupils(1, 1, true);
    p.setRule(0, 1);
    p.setLimit(0, 40);
    p.setRadius(0, 5);
    p.allocate();
    p.appeal(2, 0, 60);
    dueRefused(p, 3, 0, 0, 4);
    String saved = Calls.everything(p);
    due(p.save(), 2);
    p.withdraw(0);
    p.setNeed(3, -1);
    p.setPupils(1, 1, false);
    p.setRule(0, 0);
    p.setLimit(0, 41);
    p.setRadius(0, 6);
    p.setSeats(1, 0);
    p.choose(1, 1, 0);
    p.addSchool(1, 1, 1, 1);
    p.addChild(1, 1, 1, 1);
    p.allocate();
    due(p.restore(), 2);
    due(p.account(9), 0);
    due(withoutUndos(Calls.everything(p)), withoutUndos(saved));
    dueState(p, p::undo);
    // it stays saved, and the input stays as it is
    p.addSchool(5, 5, 5, 5);
    feed(p, "zz");
    due(p.restore(), 2);
    due(p.account(0), 2);
    due(p.account(10), 2);
    p.setLimit(0, 1);
    due(p.undo(), 0);
    due(p.school(0, 3), 40);
    due(p.restore(), 2);
    restoreAfterOthers();
    restoreToFew();
  }

  /** What took the numbers of saved schools, children and entries does not stay. */
  private static void restoreAfterOthers() {
    SchoolPlaces p = new SchoolPlaces();
    p.addSchool(1, 2, 1, 5);
    read(p, "3,4f5l6:0");
    p.allocate();
    String saved = Calls.everything(p);
    p.save();
    for (int i = 0; i < 3; i++) p.undo();
    p.addSchool(50, 60, 2, 7);
    read(p, "7,8f9l10:0");
    read(p, "7,8f9l10:0");
    p.setNeed(1, 0);
    p.setSeats(0, 1);
    p.withdraw(1);
    due(p.entry(1, 0), 3);
    due(p.entry(0, 1), 1);
    p.restore();
    due(withoutUndos(Calls.everything(p)), withoutUndos(saved));
  }

  /** Children and schools that are gone count nowhere. */
  private static void restoreToFew() {
    SchoolPlaces p = desk("0");
    read(p, "0,0f0l0:0");
    String saved = Calls.everything(p);
    p.save();
    p.addSchool(0, 0, 5, 5);
    for (int i = 0; i < 5; i++) read(p, i + ",0f0l0:01");
    p.allocate();
    p.setSeats(0, 1);
    p.appeal(1, 0, 100);
    due(p.restore(), 0);
    due(withoutUndos(Calls.everything(p)), withoutUndos(saved));
    due(p.setSeats(0, 5), 1);
    due(p.account(4), 1);
    due(p.allocate(), 1);
    due(p.account(8), 1);
    // new schools and children take nothing over from those that are gone
    SchoolPlaces q = new SchoolPlaces();
    q.save();
    q.addSchool(0, 0, 0, 0);
    read(q, "0,0f0l0:0");
    due(q.appeal(0, 0, 100), 0);
    q.restore();
    q.addSchool(0, 0, 0, 0);
    q.addChild(0, 0, 0, 0);
    due(q.school(0, 4), 0);
    due(q.child(0, 3), 0);
    due(q.child(0, 4), -1);
    due(q.child(0, 7), 0);
  }
}
