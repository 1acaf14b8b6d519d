/** A test for each sentence of promises 19 to 24, and of what they rest on, that names a boundary case. */
final class EdgesOfSeats extends Checks {
  private static final String ORDER = "The exceptions of a method are checked in the order in which they are listed.";
  private static final String NO_CHILD = "Throws IndexOutOfBoundsException if there is no such child";
  private static final String NO_CHILD_OR_SCHOOL = "Throws IndexOutOfBoundsException if there is no such child or school";
  private static final String FILLED = "Returns the number of children that get a seat by filling.";

  private EdgesOfSeats() { }

  /** Rounds with the seats 0 1 0, 0 0 1, and 0 0 1: the mark of child 1 moves child 2. */
  private static SchoolPlaces threeRounds() { return desk("21", "0,0f0l0:0", "9,9f0l0:01", "0,5f1l0:01"); }

  /** Rounds with the seats 0 1 -1, 1 -1 0, 0 -1 1 and 0 -1 1: children 0 and 2 mark each other in turn. */
  private static SchoolPlaces fourRounds() { return desk("11", "0,0f0l0:01", "0,1f1l0:10", "0,2f0l0:01"); }

  // ---- promise 19: allocate, rounds

  @Edge(promise = 19, says = "In a round, no child holds a seat at first.")
  static void oldSeatsDoNotCount() {
    SchoolPlaces p = desk("1", "5,0f0l0:0");
    p.allocate();
    read(p, "0,0f1l0:0");
    due(p.allocate(), 1);
    due(seats(p), "-1 0");
    due(entries(p, 1), "0:0:0:-1 0:1:-1:0");
    // more children than seats: those with the best ranks keep theirs
    SchoolPlaces q = desk("3", "3,0f0l0:0", "2,0f1l0:0", "1,0f2l0:0");
    q.allocate();
    q.setSeats(0, 1);
    due(q.allocate(), 1);
    due(seats(q), "-1 -1 0");
    q.setSeats(0, 0);
    q.allocate();
    due(seats(q), "-1 -1 -1");
  }

  @Edge(promise = 19, says = "As long as there is a child who holds no seat and has a choice at which it has not asked in this round, the one "
      + "with the lowest number of these asks at its first choice at which it has not asked yet.")
  static void childAsksChoiceByChoice() {
    // child 0 gets and loses a seat at each of its choices
    SchoolPlaces p = desk("1111", "9,0f0l0:0123", "0,0f1l0:0", "0,0f2l0:1", "0,0f3l0:2", "0,0f4l0:3");
    due(p.allocate(), 1);
    due(seats(p), "-1 0 1 2 3");
    // the last choice of all is asked, too, also by the child with the highest number
    SchoolPlaces q = desk("0001", "9,0f0l0", "9,0f1l0:0123");
    q.allocate();
    due(seats(q), "-1 3");
    // who is sent away asks again, and sends others away
    SchoolPlaces r = desk("111", "3,0f0l0:012", "2,0f1l0:01", "1,0f2l0:0");
    r.allocate();
    due(seats(r), "2 1 0");
  }

  @Edge(promise = 19, says = "If the school holds fewer children than its seats, the child holds a seat there.")
  static void lastSeatIsGiven() {
    SchoolPlaces p = desk("1a");
    crowd(p, 12, "01");
    due(p.allocate(), 1);
    due(seats(p), "0 1 1 1 1 1 1 1 1 1 1 -1");
    SchoolPlaces full = desk("c");
    crowd(full, 12, "0");
    full.allocate();
    due(full.school(0, 5), 12);
    // the last seat goes to the last of the ranks
    SchoolPlaces q = desk("2", "0,0f0l0:0", "99,99f1l999:0");
    q.allocate();
    due(seats(q), "0 0");
  }

  @Edge(promise = 19, says = "Otherwise, if the school holds a child with a worse rank, the one with the worst rank of those holds no seat any "
      + "more, and the child that asks holds one;")
  static void worstIsSentAway() {
    SchoolPlaces p = desk("2", "5,0f0l0:0", "9,0f1l0:0", "0,0f2l0:0");
    p.allocate();
    due(seats(p), "0 -1 0");
    SchoolPlaces q = desk("2", "9,0f0l0:0", "5,0f1l0:0", "7,0f2l0:0");
    q.allocate();
    due(seats(q), "-1 0 0");
    // a lower lot is a better rank
    SchoolPlaces r = desk("1", "5,0f0l1:0", "5,0f1l0:0");
    r.allocate();
    due(seats(r), "-1 0");
  }

  @Edge(promise = 19, says = "otherwise nothing happens.")
  static void noWorseRankIsHeld() {
    SchoolPlaces p = desk("2", "5,0f0l0:0", "6,0f1l0:0", "7,0f2l0:0");
    due(p.allocate(), 1);
    due(seats(p), "0 0 -1");
    due(p.account(8), 2);
    // the same rank but for the number, which is the higher one
    SchoolPlaces q = desk("1", "5,0f0l0:0", "5,0f1l0:0");
    q.allocate();
    due(seats(q), "0 -1");
  }

  @Edge(promise = 19, says = "Added seats do not count in rounds.")
  static void addedSeatsDoNotCount() {
    SchoolPlaces p = desk("1");
    crowd(p, 4, "0");
    p.setLimit(0, 0);
    p.allocate();
    for (int i = 1; i < 4; i++) p.appeal(i, 0, 100);
    due(p.school(0, 5), 4);
    for (int c = 0; c < 4; c++) due(p.again(c), c == 0 ? 0 : -1);
    due(p.allocate(), 1);
    due(seats(p), "0 -1 -1 -1");
  }

  // ---- promise 19: allocate, marks

  @Edge(promise = 19, says = "To allocate means: all marks, added seats and appeals are removed;")
  static void allocateRemoves() {
    SchoolPlaces p = desk("1", "0,0f0l0:0", "1,0f0l0:0", "2,0f1l0:0");
    p.setNeed(0, 0);
    due(p.allocate(), 2);
    due(p.child(1, 6), 1);
    due(p.appeal(1, 0, 50), 0);
    dueRefused(p, 2, 0, 0, 4);
    due(p.account(3), 1);
    p.withdraw(0);
    due(seats(p), "-1 0 0");
    due(p.child(1, 6), 1);
    due(p.child(1, 7), 1);
    due(p.child(2, 7), 1);
    due(p.allocate(), 1);
    due(seats(p), "-1 0 -1");
    due(p.account(3), 0);
    for (int c = 0; c < 3; c++) due(p.child(c, 6), 0);
    for (int c = 0; c < 3; c++) due(p.child(c, 7), 0);
  }

  @Edge(promise = 19, says = "then there is a round.")
  static void allocateWithNothing() {
    SchoolPlaces p = new SchoolPlaces();
    due(p.allocate(), 1);
    p.addChild(0, 0, 0, 0);
    due(p.allocate(), 1);
    p.addSchool(0, 0, 1, 1);
    due(p.allocate(), 1);
    due(p.account(8), 0);
    due(p.account(9), 5);
  }

  @Edge(promise = 19, says = "After a round, each child is marked for each of its choices at which another child of its family holds a seat.")
  static void marksOfSiblings() {
    SchoolPlaces p = desk("22", "0,0f0l0:0", "1,0f0l0:10", "2,0f1l0:01", "3,0f0l0");
    due(p.allocate(), 2);
    due(seats(p), "0 1 0 -1");
    // neither its own seat, nor what is no choice, nor a seat of another family makes a mark
    due(p.child(0, 6), 0);
    due(p.child(1, 6), 1);
    due(p.child(2, 6), 0);
    due(p.child(3, 6), 0);
    // a child without a seat is marked; a child that others hold seats with is marked for each of their schools
    SchoolPlaces q = desk("1111", "1,0f0l0:0", "1,0f0l0:3", "1,0f0l0:1", "9,0f0l0:0123");
    for (int c = 0; c < 3; c++) q.setNeed(c, q.choice(c, 0));
    q.allocate();
    due(seats(q), "0 3 1 2");
    due(q.child(3, 6), 1 | 2 | 8);
    SchoolPlaces r = desk("2", "0,0f0l0:0", "0,0f0l0:0");
    due(r.allocate(), 2);
    due(r.child(0, 6), 1);
    due(r.child(1, 6), 1);
  }

  @Edge(promise = 19, says = "If a mark is new, there is another round, and so on;")
  static void roundsAreRepeated() {
    due(desk("1", "0,0f0l0:0").allocate(), 1);
    due(desk("2", "0,0f0l0:0", "1,0f0l0:0").allocate(), 2);
    SchoolPlaces three = threeRounds();
    due(three.allocate(), 3);
    due(seats(three), "0 0 1");
    SchoolPlaces four = fourRounds();
    due(four.allocate(), 4);
    due(seats(four), "0 -1 1");
    // the same again: marks of the call before are not old ones
    due(four.allocate(), 4);
  }

  @Edge(promise = 19, says = "marks stay.")
  static void marksStay() {
    SchoolPlaces p = fourRounds();
    p.allocate();
    // at the end 0 holds a seat at 0 and 2 one at 1, but both keep the marks of the rounds in which it was not so
    due(p.child(0, 6), 3);
    due(p.child(2, 6), 3);
    due(p.child(1, 6), 0);
    p.withdraw(0);
    due(p.child(0, 6), 3);
    due(p.child(2, 6), 3);
    due(p.rank(2, 0, 2), 1);
  }

  @Edge(promise = 19, says = "A school without seats holds nobody.")
  static void schoolWithoutSeats() {
    SchoolPlaces p = desk("00", "0,0f0l0:01", "1,0f0l0:10");
    p.setNeed(0, 0);
    p.setPupils(0, 1, true);
    due(p.allocate(), 1);
    due(seats(p), "-1 -1");
    due(p.account(8), 0);
    for (int c = 0; c < 2; c++) due(p.child(c, 6), 0);
  }

  @Edge(promise = 19, says = "Seats before an allocation are those before the call, not those before its last round.")
  static void seatsBeforeTheCall() {
    SchoolPlaces p = threeRounds();
    p.allocate();
    due(entries(p, 0), "0:0:-1:0 0:1:-1:0 0:2:-1:1");
    // the first of the rounds gives other seats, the last one those of before
    due(p.allocate(), 3);
    due(p.account(8), 3);
    // here the first round gives those of before, and the last one what the round before it gave
    SchoolPlaces q = desk("11", "0,0f0l0", "9,9f0l0:01", "0,5f1l0:01");
    q.allocate();
    q.choose(0, 0, 0);
    due(q.setSeats(0, 2), 1);
    due(seats(q), "0 1 0");
    due(q.allocate(), 3);
    due(entries(q, 3), "0:1:1:0 0:2:0:1");
  }

  // ---- promise 20: again

  @Edge(promise = 20, says = "Returns the school at which a child would hold a seat if the seats were allocated now, by a second way: in each "
      + "round, the child with the highest number asks each time instead of the one with the lowest number.")
  static void secondWayAgrees() {
    SchoolPlaces[] desks = {threeRounds(), fourRounds(), desk("1111", "9,0f0l0:0123", "0,0f1l0:0", "0,0f2l0:1", "0,0f3l0:2", "0,0f4l0:3"),
      desk("111", "1,0f0l0:012", "1,0f1l0:01", "1,0f2l0:0", "1,0f3l0:210")};
    for (SchoolPlaces p : desks) {
      int[] seats = new int[p.account(1)];
      for (int c = 0; c < seats.length; c++) seats[c] = p.again(c);
      p.allocate();
      for (int c = 0; c < seats.length; c++) due(seats[c], p.child(c, 4));
      for (int c = 0; c < seats.length; c++) due(p.again(c), p.child(c, 4));
    }
  }

  @Edge(promise = 20, says = "Returns the school, or -1 for none.")
  static void secondWayWithoutSeat() {
    SchoolPlaces p = desk("0010", "0,0f0l0:01", "1,0f1l0", "2,0f2l0:32", "3,0f3l0:2");
    due(p.again(0), -1);
    due(p.again(1), -1);
    due(p.again(2), 2);
    due(p.again(3), -1);
  }

  @Edge(promise = 20, says = "Nothing changes.")
  static void secondWayChangesNothing() {
    SchoolPlaces p = fourRounds();
    due(p.again(0), 0);
    due(seats(p), "-1 -1 -1");
    for (int c = 0; c < 3; c++) due(p.child(c, 6), 0);
    due(p.account(8), 0);
    due(p.account(9), 5);
    p.setLimit(1, 0);
    p.allocate();
    p.appeal(1, 1, 100);
    p.setNeed(1, 0);
    String before = Calls.everything(p);
    for (int c = 0; c < 3; c++) p.again(c);
    due(Calls.everything(p), before);
    due(p.school(1, 4), 1);
    due(p.child(1, 7), 2);
    due(p.child(1, 4), 1);
    due(p.again(1), 0);
    due(p.undo(), 7);
    due(p.child(1, 2), -1);
  }

  @Edge(promise = 20, says = "The second way begins without marks and repeats rounds, too.")
  static void secondWayBeginsWithoutMarks() {
    SchoolPlaces p = threeRounds();
    // only as a sibling, and so in a later round, child 1 gets a seat at 0
    due(p.again(1), 0);
    due(p.again(2), 1);
    p.allocate();
    p.setSeats(0, 1);
    p.withdraw(0);
    due(seats(p), "-1 0 1");
    due(p.child(1, 6), 1);
    // its mark stays, but it counts no more: child 2 is nearer
    due(p.again(1), 1);
    due(p.again(2), 0);
  }

  @Edge(promise = 20, says = NO_CHILD)
  static void secondWayOfNoChild() {
    SchoolPlaces p = desk("1", "0,0f0l0:0", "0,0f1l0:0");
    dueIndexBeyond(p, 1, n -> p.again(n));
    p.undo();
    dueIndex(p, () -> p.again(1));
  }

  // ---- promise 21: unstable

  @Edge(promise = 21, says = "Returns the number of pairs of a child and a school such that the child prefers the school, and the school has a "
      + "free seat or holds a child with a worse rank.")
  static void unstablePairs() {
    SchoolPlaces p = desk("2", "5,0f0l0:0");
    due(p.unstable(), 1);
    p.allocate();
    due(p.unstable(), 0);
    // a free seat and a child with a worse rank: one pair
    read(p, "0,0f1l0:0");
    due(p.unstable(), 1);
    // a free seat, and no worse rank
    read(p, "9,0f2l0:0");
    due(p.unstable(), 2);
    // no free seat: only the better rank counts, once, also if several have worse ones
    p.setSeats(0, 0);
    due(p.unstable(), 1);
    SchoolPlaces q = desk("2", "5,0f0l0:0", "6,0f1l0:0");
    q.allocate();
    read(q, "0,0f2l0:0");
    due(q.unstable(), 1);
    read(q, "6,0f3l0:0");
    due(q.unstable(), 1);
    // who holds a seat at a choice that comes before, or has no choice, makes no pair
    SchoolPlaces r = desk("12", "0,0f0l0:01", "0,0f1l0");
    r.allocate();
    due(r.unstable(), 0);
    r.choose(0, 1, 0);
    due(r.unstable(), 1);
    // a school without seats makes none, a school with an added free seat does
    SchoolPlaces s = desk("0", "0,0f0l0:0");
    due(s.unstable(), 0);
    s.appeal(0, 0, 100);
    s.withdraw(0);
    read(s, "1,0f0l0:0");
    due(s.unstable(), 1);
  }

  /** With 6 schools and 24 children all pairs are looked at, the last ones, too. */
  @Edge(promise = 21, says = "Returns the number of pairs of a child and a school such that the child prefers the school, and the school has a "
      + "free seat or holds a child with a worse rank.")
  static void unstablePairsOnAFullDesk() {
    SchoolPlaces p = desk("ccc888");
    crowd(p, 24, "5432");
    due(p.unstable(), 4 * 24);
    p.allocate();
    due(p.unstable(), 0);
    due(p.child(23, 4), 3);
    p.setNeed(23, 5);
    due(p.unstable(), 1);
    p.choose(23, 3, 0);
    due(p.unstable(), 0);
    p.setSeats(5, 0);
    for (int c = 0; c < 24; c++) p.choose(c, 2, 0);
    due(p.unstable(), 24);
  }

  // ---- promise 22: withdraw

  @Edge(promise = 22, says = "Lets a child give up its seat and all its choices;")
  static void withdrawGivesUpAll() {
    SchoolPlaces p = desk("0001", "0,0f0l0:0123", "1,0f1l0:3");
    p.allocate();
    due(p.withdraw(0), 1);
    due(p.child(0, 4), -1);
    due(p.child(0, 3), 0);
    due(p.child(0, 5), -1);
    dueNone(p, () -> p.choice(0, 0));
    for (int s = 0; s < 4; s++) {
      due(p.rank(0, s, 3), 0);
      due(p.why(0, s), 1);
    }
    due(choices(p, 1), "3");
    // choices can be made anew, up to four
    for (int s = 0; s < 4; s++) due(p.choose(0, s, s), s + 1);
    // of the last child that holds a seat
    due(p.withdraw(1), 1);
    due(seats(p), "3 -1");
    due(p.withdraw(0), 0);
    due(p.account(4), 0);
  }

  @Edge(promise = 22, says = "then the seats are filled.")
  static void withdrawFills() {
    SchoolPlaces p = desk("111", "0,0f0l0:0", "1,0f1l0:01", "2,0f2l0:012", "3,0f3l0:012");
    p.allocate();
    due(seats(p), "0 1 2 -1");
    due(p.withdraw(0), 3);
    due(entries(p, 3), "3:0:0:-1 1:1:1:0 1:2:2:1 1:3:-1:2");
    // nothing is free where more children hold seats than there are
    SchoolPlaces q = desk("2", "0,0f0l0:0", "1,0f1l0:0", "2,0f2l0:0");
    q.allocate();
    q.setSeats(0, 1);
    due(q.withdraw(0), 0);
    due(seats(q), "-1 0 -1");
    due(q.withdraw(1), 1);
    due(seats(q), "-1 -1 0");
    // seats that were free before are filled, too, and first where the number is lower
    SchoolPlaces r = desk("11", "0,0f0l0:1");
    r.allocate();
    read(r, "1,0f1l0:0");
    read(r, "2,0f2l0:1");
    due(r.withdraw(0), 2);
    due(entries(r, 1), "3:0:1:-1 1:1:-1:0 1:2:-1:1");
  }

  @Edge(promise = 22, says = "A child that withdraws keeps its need, its marks and its appeals.")
  static void withdrawKeeps() {
    SchoolPlaces p = desk("10", "0,0f0l0:01", "1,0f0l0:01");
    p.setNeed(0, 0);
    p.setNeed(1, 1);
    p.allocate();
    due(p.child(1, 6), 1);
    dueRefused(p, 1, 0, 0, 4);
    due(p.appeal(1, 1, 100), 0);
    due(p.withdraw(1), 0);
    due(p.child(1, 2), 1);
    due(p.child(1, 6), 1);
    due(p.child(1, 7), 3);
    due(p.rank(1, 0, 2), 1);
    due(p.rank(1, 1, 0), 0);
    due(p.school(1, 4), 1);
    p.choose(1, 0, 0);
    dueRefused(p, 1, 0, 100, 2);
  }

  @Edge(promise = 22, says = NO_CHILD)
  static void withdrawOfNoChild() {
    SchoolPlaces p = desk("2", "0,0f0l0:0", "0,0f1l0:0");
    p.allocate();
    dueIndexBeyond(p, 1, n -> p.withdraw(n));
  }

  @Edge(promise = 22, says = "Throws UnsupportedOperationException if it holds no seat")
  static void withdrawWithoutSeat() {
    SchoolPlaces p = desk("1", "0,0f0l0:0", "1,0f1l0:0", "2,0f2l0");
    for (int c = 0; c < 3; c++) {
      int child = c;
      dueThrow(p, UnsupportedOperationException.class, () -> p.withdraw(child));
    }
    p.allocate();
    dueThrow(p, UnsupportedOperationException.class, () -> p.withdraw(1));
    dueThrow(p, UnsupportedOperationException.class, () -> p.withdraw(2));
    due(choices(p, 1), "0");
    due(p.withdraw(0), 1);
    dueThrow(p, UnsupportedOperationException.class, () -> p.withdraw(0));
    p.setSeats(0, 0);
    p.allocate();
    dueThrow(p, UnsupportedOperationException.class, () -> p.withdraw(1));
  }

  @Edge(promise = 22, says = ORDER)
  static void withdrawOrder() {
    SchoolPlaces p = desk("1", "0,0f0l0:0");
    dueIndex(p, () -> p.withdraw(1));
    dueThrow(p, UnsupportedOperationException.class, () -> p.withdraw(0));
  }

  // ---- promise 23: appeal, reasons

  @Edge(promise = 23, says = "A child can appeal for a school with a strength from 0 to 100.")
  static void strengths() {
    SchoolPlaces p = desk("00", "0,0f0l0:01");
    p.setLimit(0, 0);
    p.setLimit(1, 100);
    dueArgumentBeyond(p, 100, n -> p.appeal(0, 0, n));
    due(p.child(0, 7), 0);
    due(p.appeal(0, 0, 0), 0);
    SchoolPlaces q = desk("00", "0,0f0l0:01");
    q.setLimit(1, 100);
    due(q.appeal(0, 1, 100), 0);
    due(q.child(0, 4), 1);
  }

  @Edge(promise = 23, says = "The appeal is refused for the first of these reasons that applies: 1, the child does not prefer the school;")
  static void refusedWithoutPreference() {
    SchoolPlaces p = desk("11111", "0,0f0l0:302", "0,0f1l0");
    p.allocate();
    p.choose(0, 1, 0);
    due(choices(p, 0), "1302");
    due(p.child(0, 4), 3);
    // it holds a seat there; holds one that comes before; has no such choice; has no choices
    dueRefused(p, 0, 3, 100, 1);
    dueRefused(p, 0, 0, 100, 1);
    dueRefused(p, 0, 4, 100, 1);
    dueRefused(p, 1, 0, 100, 1);
    due(p.child(0, 7), 0);
    due(p.appeal(0, 1, 50), 0);
    dueRefused(p, 0, 3, 100, 1);
  }

  @Edge(promise = 23, says = "2, the child has appealed for this school already since the latest call of allocate;")
  static void refusedTheSecondTime() {
    SchoolPlaces p = desk("10", "0,0f0l0:0", "1,0f1l0:01");
    p.allocate();
    dueRefused(p, 1, 0, 49, 4);
    dueRefused(p, 1, 0, 100, 2);
    dueRefused(p, 1, 0, 100, 2);
    // another school, and an undo of the first appeal, are free
    dueRefused(p, 1, 1, 49, 4);
    p.undo();
    dueRefused(p, 1, 1, 49, 4);
    p.allocate();
    due(p.appeal(1, 0, 50), 0);
    due(seats(p), "0 0");
    // restore brings the appeals of the saved desk back
    p.save();
    p.allocate();
    due(p.child(1, 7), 0);
    p.restore();
    due(p.child(1, 7), 1);
    p.withdraw(1);
    p.choose(1, 0, 0);
    dueRefused(p, 1, 0, 100, 2);
    p.allocate();
    due(p.appeal(1, 0, 100), 0);
  }

  @Edge(promise = 23, says = "3, the school has 3 added seats;")
  static void refusedWithThreeAddedSeats() {
    SchoolPlaces p = desk("00");
    crowd(p, 6, "0");
    p.choose(5, 1, 1);
    p.setLimit(0, 0);
    for (int i = 0; i < 2; i++) p.appeal(i, 0, 100);
    due(p.school(0, 4), 2);
    due(p.appeal(2, 0, 100), 0);
    due(p.school(0, 4), 3);
    dueRefused(p, 3, 0, 100, 3);
    dueRefused(p, 5, 0, 100, 3);
    due(p.school(0, 4), 3);
    due(p.appeal(5, 1, 50), 0);
    // also where all of them are free
    for (int i = 0; i < 3; i++) p.withdraw(i);
    due(seats(p), "-1 -1 -1 0 0 0");
    for (int i = 3; i < 6; i++) p.withdraw(i);
    due(p.school(0, 6), 3);
    p.choose(4, 0, 0);
    dueRefused(p, 4, 0, 100, 3);
    p.allocate();
    due(p.appeal(4, 0, 100), 0);
  }

  @Edge(promise = 23, says = "4, the strength is less than the limit of the school plus 5 for each child before this one on the waiting list.")
  static void refusedForItsStrength() {
    for (int before = 0; before <= 4; before++) {
      SchoolPlaces p = desk("0");
      crowd(p, 6, "0");
      p.setLimit(0, 10);
      dueRefused(p, before, 0, 9 + 5 * before, 4);
      p.undo();
      due(p.appeal(before, 0, 10 + 5 * before), 0);
      due(p.child(before, 4), 0);
    }
    // the last of 24, with the limit 0, would need 115; the tenth one needs 100 with the limit 55
    SchoolPlaces q = desk("0");
    crowd(q, 24, "0");
    q.setLimit(0, 0);
    dueRefused(q, 23, 0, 100, 4);
    dueRefused(q, 21, 0, 100, 4);
    due(q.appeal(20, 0, 100), 0);
    q.setLimit(0, 55);
    due(q.appeal(9, 0, 100), 0);
    // those who hold seats are not on the waiting list
    q.setLimit(0, 100);
    dueRefused(q, 1, 0, 100, 4);
    due(q.appeal(0, 0, 100), 0);
  }

  @Edge(promise = 23, says = "The appeal is refused for the first of these reasons that applies: 1, the child does not prefer the school;")
  static void firstReasonComesFirst() {
    SchoolPlaces p = desk("00");
    crowd(p, 6, "0");
    p.setLimit(0, 0);
    for (int i = 0; i < 3; i++) p.appeal(i, 0, 100);
    // 1 before 2 (it has appealed), 3 and 4
    p.setLimit(0, 100);
    dueRefused(p, 0, 0, 0, 1);
    dueRefused(p, 3, 1, 0, 1);
    // 3 before 4; then 2 before 3 and 4
    dueRefused(p, 4, 0, 0, 3);
    dueRefused(p, 4, 0, 0, 2);
    // 2 before 4 alone
    SchoolPlaces q = desk("0", "0,0f0l0:0");
    dueRefused(q, 0, 0, 0, 4);
    dueRefused(q, 0, 0, 0, 2);
  }

  @Edge(promise = 23, says = "Both refused appeals and others count for reason 2, apart from those that are refused for reason 1 or 2.")
  static void whatCountsAsAppeal() {
    SchoolPlaces p = desk("1", "0,0f0l0:0", "1,0f1l0");
    p.allocate();
    // refused for reason 1: it does not count
    dueRefused(p, 1, 0, 100, 1);
    due(p.child(1, 7), 0);
    p.choose(1, 0, 0);
    due(p.appeal(1, 0, 50), 0);
    // not refused: it counts
    p.withdraw(1);
    p.choose(1, 0, 0);
    dueRefused(p, 1, 0, 100, 2);
    // an appeal with wrong arguments is none
    SchoolPlaces q = desk("0", "0,0f0l0:0");
    dueArgument(q, () -> q.appeal(0, 0, 101));
    due(q.appeal(0, 0, 100), 0);
  }

  // ---- promise 23: appeal, what follows

  @Edge(promise = 23, says = "If it is not refused, the school gets an added seat, the child gets a seat there and leaves the one that it held, and "
      + "then the seats are filled.")
  static void appealMovesAndFills() {
    SchoolPlaces p = desk("111", "0,0f0l0:0", "1,0f1l0:01", "2,0f2l0:012", "3,0f3l0:2");
    p.allocate();
    due(seats(p), "0 1 2 -1");
    due(p.appeal(1, 0, 50), 2);
    due(seats(p), "0 0 1 2");
    due(entries(p, 3), "2:1:1:0 1:2:2:1 1:3:-1:2");
    due(p.school(0, 4), 1);
    due(p.school(1, 4), 0);
    due(p.account(3), 1);
    // a free seat of the school stays free for the next on its list, who may be worse
    SchoolPlaces q = desk("1", "9,0f0l0:0", "0,0f1l0:0");
    due(q.appeal(0, 0, 55), 1);
    due(entries(q, 0), "2:0:-1:0 1:1:-1:0");
    // where more children than seats hold one, the added seat makes no free one
    SchoolPlaces r = desk("2", "0,0f0l0:0", "1,0f1l0:0", "2,0f2l0:0", "3,0f3l0:0");
    r.allocate();
    r.setSeats(0, 0);
    due(r.appeal(2, 0, 50), 0);
    due(seats(r), "0 0 0 -1");
  }

  @Edge(promise = 23, says = "strength: the strength, 0 to 100")
  static void strengthAtItsEnds() {
    SchoolPlaces p = desk("0", "0,0f0l0:0");
    p.setLimit(0, 1);
    dueRefused(p, 0, 0, 0, 4);
    p.allocate();
    p.setLimit(0, 100);
    due(p.appeal(0, 0, 100), 0);
  }

  @Edge(promise = 23, says = FILLED)
  static void appealCountsOthersOnly() {
    SchoolPlaces p = desk("0", "0,0f0l0:0");
    due(p.appeal(0, 0, 50), 0);
    due(p.account(4), 1);
    due(p.account(8), 1);
    // the child itself counts where it moves on by filling
    SchoolPlaces q = desk("10", "0,0f0l0:01", "1,0f1l0:1");
    due(q.appeal(0, 1, 50), 2);
    due(entries(q, 0), "2:0:-1:1 1:0:1:0 1:1:-1:1");
  }

  @Edge(promise = 23, says = NO_CHILD_OR_SCHOOL)
  static void appealOfNone() {
    SchoolPlaces p = desk("00", "0,0f0l0:01", "0,0f0l0:01");
    dueIndexBeyond(p, 1, n -> p.appeal(n, 0, 100));
    dueIndexBeyond(p, 1, n -> p.appeal(0, n, 100));
    dueIndex(p, () -> p.appeal(2, 2, 100));
  }

  @Edge(promise = 23, says = "Throws IllegalArgumentException if the strength is out of range")
  static void strengthOutOfRange() {
    SchoolPlaces p = desk("0", "0,0f0l0:0");
    p.setLimit(0, 0);
    dueArgumentBeyond(p, 100, n -> p.appeal(0, 0, n));
    dueNone(p, p::reason);
  }

  @Edge(promise = 23, says = "Throws IllegalStateException if the appeal is refused;")
  static void refusedAppealsThrow() {
    SchoolPlaces p = desk("0", "0,0f0l0:0", "1,0f1l0");
    dueRefused(p, 1, 0, 100, 1);
    dueRefused(p, 0, 0, 0, 4);
    dueRefused(p, 0, 0, 0, 2);
    due(p.school(0, 4), 0);
    due(p.account(4), 0);
    due(p.account(8), 0);
  }

  @Edge(promise = 23, says = "the reason is kept")
  static void reasonIsKept() {
    SchoolPlaces p = desk("0", "0,0f0l0:0", "1,0f1l0");
    dueRefused(p, 0, 0, 0, 4);
    dueArgument(p, () -> p.appeal(0, 0, -1));
    dueIndex(p, () -> p.appeal(2, 0, 0));
    due(p.reason(), 4);
    due(p.reason(), 4);
  }

  @Edge(promise = 23, says = ORDER)
  static void appealOrder() {
    SchoolPlaces p = desk("0", "0,0f0l0:0", "1,0f1l0");
    dueIndex(p, () -> p.appeal(2, 0, 101));
    dueIndex(p, () -> p.appeal(0, 1, -1));
    dueIndex(p, () -> p.appeal(1, 1, 0));
    dueArgument(p, () -> p.appeal(1, 0, 101));
    dueArgument(p, () -> p.appeal(1, 0, -1));
    dueNone(p, p::reason);
  }

  // ---- promise 24: reason

  @Edge(promise = 24, says = "Returns the reason, 1 to 4.")
  static void reasonsFromOneToFour() {
    SchoolPlaces p = desk("0");
    crowd(p, 4, "0");
    p.setLimit(0, 0);
    for (int i = 0; i < 3; i++) p.appeal(i, 0, 100);
    dueRefused(p, 0, 0, 100, 1);
    dueRefused(p, 3, 0, 100, 3);
    dueRefused(p, 3, 0, 100, 2);
    p.allocate();
    p.setLimit(0, 100);
    dueRefused(p, 3, 0, 0, 4);
  }

  @Edge(promise = 24, says = "Returns the reason for which an appeal was refused last.")
  static void reasonStays() {
    SchoolPlaces p = desk("0", "0,0f0l0:0", "1,0f1l0:0");
    dueRefused(p, 1, 0, 0, 4);
    p.appeal(0, 0, 100);
    due(p.reason(), 4);
    p.allocate();
    due(p.reason(), 4);
    p.save();
    dueRefused(p, 1, 0, 0, 4);
    dueRefused(p, 1, 0, 0, 2);
    p.undo();
    due(p.reason(), 2);
    p.restore();
    due(p.reason(), 2);
  }

  @Edge(promise = 24, says = "Throws NoSuchElementException if none was refused")
  static void noReason() {
    SchoolPlaces p = desk("0", "0,0f0l0:0");
    dueNone(p, p::reason);
    p.appeal(0, 0, 100);
    dueNone(p, p::reason);
    dueIndex(p, () -> p.appeal(1, 0, 100));
    dueArgument(p, () -> p.appeal(0, 0, 101));
    dueNone(p, p::reason);
    dueRefused(p, 0, 0, 100, 1);
  }
}
