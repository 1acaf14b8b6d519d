/** A test for each sentence of promises 1 to 10, and of what they rest on, that names a boundary case. */
final class EdgesOfSchools extends Checks {
  private static final String ORDER = "The exceptions of a method are checked in the order in which they are listed.";
  private static final String NO_SCHOOL = "Throws IndexOutOfBoundsException if there is no such school";

  private EdgesOfSchools() { }

  // ---- promise 1: a new object

  @Edge(promise = 1, says = "Creates a desk without schools and children.")
  static void newDeskIsEmpty() {
    SchoolPlaces p = new SchoolPlaces();
    for (int what = 0; what <= 10; what++) due(p.account(what), 0);
    due(p.unstable(), 0);
    dueIndex(p, () -> p.school(0, 0));
    dueIndex(p, () -> p.setPupils(0, 0, true));
    dueIndex(p, () -> p.held(0, 0));
    dueIndex(p, () -> p.waiting(0, 0));
    dueIndex(p, () -> p.child(0, 0));
    dueIndex(p, () -> p.choice(0, 0));
    dueIndex(p, () -> p.rank(0, 0, 0));
    dueIndex(p, () -> p.why(0, 0));
    dueIndex(p, () -> p.setNeed(0, -1));
    dueIndex(p, () -> p.again(0));
    dueIndex(p, () -> p.withdraw(0));
    dueNone(p, p::reason);
    dueNone(p, () -> p.entry(0, 0));
    dueNone(p, p::errorPosition);
    dueThrow(p, ArithmeticException.class, p::meanDistance);
    dueState(p, p::undo);
    dueState(p, p::restore);
    due(p.allocate(), 1);
    due(p.account(8), 0);
    due(p.account(9), 1);
    due(p.save(), 0);
    due(p.restore(), 0);
  }

  @Edge(promise = 1, says = "Creates a desk without schools and children.")
  static void desksShareNothing() {
    SchoolPlaces full = desk("1", "0,0f0l0:0", "1,0f1l0:0");
    full.allocate();
    dueRefused(full, 1, 0, 0, 4);
    feed(full, "x");
    full.save();
    SchoolPlaces p = new SchoolPlaces();
    for (int what = 0; what <= 10; what++) due(p.account(what), 0);
    dueState(p, p::restore);
    dueState(p, p::undo);
    dueNone(p, p::reason);
    p.addSchool(9, 9, 9, 9);
    due(full.account(0), 1);
    due(seats(full), "0 -1");
  }

  /** 512 calls, most of which move twelve children: the last call still answers as it should. */
  @Edge(promise = 1, says = "An object is used for at most 512 calls after it has been made;")
  static void fiveHundredAndTwelveCalls() {
    SchoolPlaces p = new SchoolPlaces();
    p.addSchool(0, 0, 0, 198);
    for (int i = 0; i < 24; i++) p.addChild(i, 99, i / 2, 999);
    for (int i = 0; i < 24; i++) p.choose(i, 0, 0);
    int calls = 49;
    int entries = 0;
    while (calls < 511) {
      due(p.setSeats(0, 12), 12);
      due(p.setSeats(0, 0), 0);
      due(p.allocate(), 1);
      calls += 3;
      entries += 24;
    }
    due(calls, 511);
    due(p.account(8), entries);
  }

  // ---- promise 2: addSchool

  @Edge(promise = 2, says = "A place has two coordinates, x and y, from 0 to 99.")
  static void schoolPlaceEnds() {
    SchoolPlaces p = new SchoolPlaces();
    due(p.addSchool(0, 0, 1, 1), 0);
    due(p.addSchool(99, 0, 1, 1), 1);
    due(p.addSchool(0, 99, 1, 1), 2);
    due(p.addSchool(99, 99, 1, 1), 3);
    p.addChild(0, 0, 0, 0);
    int[] distances = {0, 99, 99, 198};
    for (int s = 0; s < 4; s++) due(p.rank(0, s, 1), distances[s]);
    dueArgumentBeyond(p, 99, n -> p.addSchool(n, 50, 1, 1));
    dueArgumentBeyond(p, 99, n -> p.addSchool(50, n, 1, 1));
    due(p.account(0), 4);
  }

  @Edge(promise = 2, says = "seats: the seats, 0 to 12")
  static void addedSchoolSeats() {
    SchoolPlaces p = new SchoolPlaces();
    due(p.addSchool(5, 5, 0, 9), 0);
    due(p.addSchool(5, 5, 12, 9), 1);
    due(p.school(0, 0), 0);
    due(p.school(1, 0), 12);
    due(p.account(2), 12);
    dueArgumentBeyond(p, 12, n -> p.addSchool(5, 5, n, 9));
  }

  @Edge(promise = 2, says = "radius: the radius, 0 to 198")
  static void addedSchoolRadius() {
    SchoolPlaces p = new SchoolPlaces();
    due(p.addSchool(5, 5, 1, 0), 0);
    due(p.addSchool(5, 5, 1, 198), 1);
    due(p.school(0, 1), 0);
    due(p.school(1, 1), 198);
    dueArgumentBeyond(p, 198, n -> p.addSchool(5, 5, 1, n));
  }

  @Edge(promise = 2, says = "There are at most 6 schools, numbered from 0.")
  static void schoolsAreNumberedFromZero() {
    SchoolPlaces p = new SchoolPlaces();
    for (int s = 0; s < 6; s++) {
      int next = s;
      dueIndex(p, () -> p.school(next, 0));
      due(p.addSchool(s, s, s, s), s);
      due(p.school(s, 0), s);
    }
    due(p.account(0), 6);
    dueIndexBeyond(p, 5, n -> p.school(n, 0));
    dueState(p, () -> p.addSchool(6, 6, 6, 6));
    due(p.account(0), 6);
  }

  @Edge(promise = 2, says = "Adds a school with the rule 0 and the limit 50.")
  static void addedSchoolBeginsAnew() {
    SchoolPlaces p = new SchoolPlaces();
    p.save();
    for (int turn = 0; turn < 3; turn++) {
      due(p.addSchool(1, 2, 0, 9), 0);
      due(p.school(0, 2), 0);
      due(p.school(0, 3), 50);
      due(p.school(0, 4), 0);
      p.setRule(0, 1);
      p.setLimit(0, 0);
      read(p, "0,0f0l0:0");
      p.appeal(0, 0, 100);
      due(p.school(0, 4), 1);
      // the number is given again after an undo of all, and after a restore of nothing
      for (int i = 0; i < 5 && turn == 0; i++) p.undo();
      if (turn == 1) p.restore();
    }
  }

  @Edge(promise = 2, says = "Throws IllegalArgumentException if a number is out of range")
  static void addSchoolOutOfRange() {
    SchoolPlaces p = desk("1");
    for (int i = 0; i < 4; i++) {
      int[] over = {99, 99, 12, 198};
      int[] under = {0, 0, 0, 0};
      over[i]++;
      under[i]--;
      dueArgument(p, () -> p.addSchool(over[0], over[1], over[2], over[3]));
      dueArgument(p, () -> p.addSchool(under[0], under[1], under[2], under[3]));
    }
    dueArgument(p, () -> p.addSchool(LEAST, LEAST, LEAST, LEAST));
    dueArgument(p, () -> p.addSchool(MOST, MOST, MOST, MOST));
    due(p.account(0), 1);
    due(p.account(9), 1);
  }

  @Edge(promise = 2, says = "Throws IllegalStateException if there are 6 schools")
  static void addSeventhSchool() {
    SchoolPlaces p = desk("11111");
    due(p.addSchool(1, 1, 1, 1), 5);
    dueState(p, () -> p.addSchool(1, 1, 1, 1));
    p.undo();
    due(p.addSchool(2, 2, 2, 2), 5);
    dueState(p, () -> p.addSchool(1, 1, 1, 1));
    due(p.school(5, 0), 2);
  }

  @Edge(promise = 2, says = ORDER)
  static void addSchoolOrder() {
    SchoolPlaces p = desk("111111");
    dueArgument(p, () -> p.addSchool(100, 0, 0, 0));
    dueArgument(p, () -> p.addSchool(0, -1, 0, 0));
    dueArgument(p, () -> p.addSchool(0, 0, 13, 0));
    dueArgument(p, () -> p.addSchool(0, 0, 0, 199));
  }

  // ---- promise 3: setSeats

  @Edge(promise = 3, says = "Sets the seats of a school.")
  static void setSeatsOfOneSchool() {
    SchoolPlaces p = desk("123");
    due(p.setSeats(1, 7), 0);
    due(p.school(0, 0), 1);
    due(p.school(1, 0), 7);
    due(p.school(2, 0), 3);
    due(p.account(2), 11);
  }

  @Edge(promise = 3, says = "seats: the seats, 0 to 12")
  static void setSeatsEnds() {
    SchoolPlaces p = desk("5");
    due(p.setSeats(0, 12), 0);
    due(p.school(0, 0), 12);
    due(p.setSeats(0, 0), 0);
    due(p.school(0, 0), 0);
    due(p.setSeats(0, 0), 0);
    due(p.account(9), 4);
  }

  @Edge(promise = 3, says = "Children who hold seats keep them, also if there are more of them then;")
  static void holdersKeepTheirSeats() {
    SchoolPlaces p = desk("c");
    crowd(p, 13, "0");
    p.allocate();
    due(p.account(4), 12);
    due(p.setSeats(0, 11), 0);
    due(p.account(4), 12);
    due(p.setSeats(0, 0), 0);
    due(p.account(4), 12);
    due(p.school(0, 5), 12);
    due(p.setSeats(0, 12), 0);
    due(p.account(8), 12);
  }

  @Edge(promise = 3, says = "otherwise, the seats are filled.")
  static void seatsAreFilledWhereFewerHold() {
    SchoolPlaces p = desk("2");
    crowd(p, 5, "0");
    p.allocate();
    // as many seats as children: none is free; one more seat: one is
    due(p.setSeats(0, 2), 0);
    due(p.setSeats(0, 3), 1);
    due(seats(p), "0 0 0 -1 -1");
    due(p.setSeats(0, 12), 2);
    due(seats(p), "0 0 0 0 0");
    due(entries(p, 2), "1:2:-1:0 1:3:-1:0 1:4:-1:0");
  }

  @Edge(promise = 3, says = "To fill the seats means: as long as there is a school with a free seat and a child on its waiting list, "
      + "at the one with the lowest number of these schools, the first child on the list gets a seat, and leaves the one that it held.")
  static void fillingTakesTheLowestSchool() {
    // schools 0 and 1 have free seats but nobody waits; at 2 a child waits without a free seat; 3 and 4 are filled
    SchoolPlaces p = desk("110110", "0,0f0l0:2", "5,0f1l0:43", "4,0f2l0:34", "3,0f3l0:4");
    due(p.setSeats(5, 0), 2);
    due(seats(p), "-1 -1 3 4");
    due(entries(p, 0), "1:2:-1:3 1:3:-1:4");
    // who moves up leaves a seat to the next one, also at a school with a higher number
    SchoolPlaces q = desk("011", "0,0f0l0:012", "1,0f1l0:12", "2,0f2l0:2");
    q.allocate();
    due(seats(q), "1 2 -1");
    due(q.setSeats(0, 1), 3);
    due(entries(q, 2), "1:0:1:0 1:1:2:1 1:2:-1:2");
    due(q.school(0, 5), 1);
  }

  @Edge(promise = 3, says = "Behind setSeats, seats are filled at all schools that have free ones, also if the school itself holds more "
      + "children than its seats;")
  static void otherSchoolsAreFilledToo() {
    SchoolPlaces p = desk("200");
    read(p, "0,0f0l0:0");
    read(p, "1,0f1l0:0");
    p.allocate();
    p.addSchool(0, 0, 1, 20);
    read(p, "2,0f2l0:3");
    read(p, "3,0f3l0:0");
    due(seats(p), "0 0 -1 -1");
    due(p.setSeats(0, 1), 1);
    due(seats(p), "0 0 3 -1");
    due(entries(p, 2), "1:2:-1:3");
  }

  @Edge(promise = 3, says = "The school at which a seat is filled is looked for anew behind each move;")
  static void schoolIsLookedForAnew() {
    // the move from 0 to 1 frees a seat at 0, which is filled before the next one of school 1
    SchoolPlaces p = desk("10", "0,0f0l0:10", "5,0f1l0:0", "6,0f2l0:1", "7,0f3l0:1");
    p.allocate();
    due(seats(p), "0 -1 -1 -1");
    due(p.setSeats(1, 3), 4);
    due(entries(p, 1), "1:0:0:1 1:1:-1:0 1:2:-1:1 1:3:-1:1");
  }

  @Edge(promise = 3, says = "each seat that is got counts, also if a child gets several one after the other.")
  static void eachSeatCounts() {
    SchoolPlaces p = desk("1111", "0,0f0l0:3210");
    due(p.setSeats(0, 1), 4);
    due(entries(p, 0), "1:0:-1:0 1:0:0:1 1:0:1:2 1:0:2:3");
    due(p.account(4), 1);
    due(p.setSeats(0, 2), 0);
  }

  @Edge(promise = 3, says = NO_SCHOOL)
  static void setSeatsOfNoSchool() {
    SchoolPlaces p = desk("11");
    dueIndexBeyond(p, 1, n -> p.setSeats(n, 1));
  }

  @Edge(promise = 3, says = "Throws IllegalArgumentException if the number is out of range")
  static void setSeatsOutOfRange() {
    SchoolPlaces p = desk("1", "0,0f0l0:0");
    dueArgumentBeyond(p, 12, n -> p.setSeats(0, n));
  }

  @Edge(promise = 3, says = ORDER)
  static void setSeatsOrder() {
    SchoolPlaces p = desk("11");
    dueIndex(p, () -> p.setSeats(2, 13));
    dueIndex(p, () -> p.setSeats(-1, -1));
  }

  // ---- promises 4 to 6: setRadius, setRule, setLimit

  @Edge(promise = 4, says = "radius: the radius, 0 to 198")
  static void setRadiusEnds() {
    SchoolPlaces p = desk("1");
    p.addChild(0, 0, 0, 0);
    p.addChild(0, 1, 0, 0);
    p.addChild(99, 99, 0, 0);
    due(p.setRadius(0, 0), 20);
    due(p.school(0, 8), 1);
    due(p.setRadius(0, 197), 0);
    due(p.school(0, 8), 2);
    due(p.setRadius(0, 198), 197);
    due(p.school(0, 8), 3);
    due(p.setRadius(0, 198), 198);
    due(p.setRadius(0, 1), 198);
  }

  @Edge(promise = 4, says = NO_SCHOOL)
  static void setRadiusOfNoSchool() {
    SchoolPlaces p = desk("11");
    dueIndexBeyond(p, 1, n -> p.setRadius(n, 1));
  }

  @Edge(promise = 4, says = "Throws IllegalArgumentException if the radius is out of range")
  static void setRadiusOutOfRange() {
    SchoolPlaces p = desk("1");
    dueArgumentBeyond(p, 198, n -> p.setRadius(0, n));
  }

  @Edge(promise = 4, says = ORDER)
  static void setRadiusOrder() {
    SchoolPlaces p = desk("1");
    dueIndex(p, () -> p.setRadius(1, 199));
    dueIndex(p, () -> p.setRadius(-1, -1));
  }

  @Edge(promise = 5, says = "rule: the rule, 0 or 1")
  static void setRuleEnds() {
    SchoolPlaces p = desk("11");
    due(p.setRule(1, 1), 0);
    due(p.school(1, 2), 1);
    due(p.school(0, 2), 0);
    due(p.setRule(1, 1), 1);
    due(p.setRule(1, 0), 1);
    due(p.setRule(1, 0), 0);
    due(p.school(1, 2), 0);
  }

  @Edge(promise = 5, says = NO_SCHOOL)
  static void setRuleOfNoSchool() {
    SchoolPlaces p = desk("11");
    dueIndexBeyond(p, 1, n -> p.setRule(n, 1));
  }

  @Edge(promise = 5, says = "Throws IllegalArgumentException if there is no such rule")
  static void noSuchRule() {
    SchoolPlaces p = desk("1");
    dueArgumentBeyond(p, 1, n -> p.setRule(0, n));
  }

  @Edge(promise = 5, says = ORDER)
  static void setRuleOrder() {
    SchoolPlaces p = desk("1");
    dueIndex(p, () -> p.setRule(1, 2));
    dueIndex(p, () -> p.setRule(-1, -1));
  }

  @Edge(promise = 6, says = "limit: the limit, 0 to 100")
  static void setLimitEnds() {
    SchoolPlaces p = desk("00", "0,0f0l0:01", "1,0f0l0:01");
    due(p.setLimit(0, 100), 50);
    due(p.school(0, 3), 100);
    due(p.school(1, 3), 50);
    dueRefused(p, 0, 0, 99, 4);
    due(p.setLimit(1, 0), 50);
    due(p.appeal(0, 1, 0), 0);
    due(p.setLimit(1, 0), 0);
    due(p.setLimit(0, 100), 100);
  }

  @Edge(promise = 6, says = NO_SCHOOL)
  static void setLimitOfNoSchool() {
    SchoolPlaces p = desk("11");
    dueIndexBeyond(p, 1, n -> p.setLimit(n, 1));
  }

  @Edge(promise = 6, says = "Throws IllegalArgumentException if the limit is out of range")
  static void setLimitOutOfRange() {
    SchoolPlaces p = desk("1");
    dueArgumentBeyond(p, 100, n -> p.setLimit(0, n));
  }

  @Edge(promise = 6, says = ORDER)
  static void setLimitOrder() {
    SchoolPlaces p = desk("1");
    dueIndex(p, () -> p.setLimit(1, 101));
    dueIndex(p, () -> p.setLimit(-1, -1));
  }

  // ---- promise 7: setPupils

  @Edge(promise = 7, says = "There are 12 families, numbered from 0.")
  static void familiesHavePupils() {
    SchoolPlaces p = desk("111111");
    for (int f = 0; f < 12; f++) p.addChild(0, 0, f, 0);
    due(p.setPupils(0, 0, true), false);
    due(p.setPupils(11, 5, true), false);
    for (int f = 0; f < 12; f++) {
      for (int s = 0; s < 6; s++) due(p.rank(f, s, 2), f == 0 && s == 0 || f == 11 && s == 5 ? 1 : 0);
    }
    dueIndexBeyond(p, 11, n -> p.setPupils(n, 0, true));
  }

  @Edge(promise = 7, says = "A family may have pupils at schools, who are older than the children here and take no seats;")
  static void pupilsTakeNoSeats() {
    SchoolPlaces p = desk("1", "0,0f3l0:0");
    for (int f = 0; f < 12; f++) p.setPupils(f, 0, true);
    due(p.school(0, 5), 0);
    due(p.school(0, 6), 1);
    due(p.account(4), 0);
    p.allocate();
    due(seats(p), "0");
  }

  @Edge(promise = 7, says = "at first no family has any.")
  static void noPupilsAtFirst() {
    SchoolPlaces p = desk("111111");
    for (int f = 0; f < 12; f++) {
      for (int s = 0; s < 6; s++) due(p.setPupils(f, s, false), false);
    }
  }

  @Edge(promise = 7, says = "Sets whether a family has pupils at a school.")
  static void pupilsAtAllSchools() {
    SchoolPlaces p = desk("111111");
    p.addChild(0, 0, 7, 0);
    for (int s = 0; s < 6; s++) due(p.setPupils(7, s, true), false);
    for (int s = 0; s < 6; s++) due(p.rank(0, s, 2), 1);
    due(p.setPupils(7, 3, true), true);
    due(p.setPupils(7, 3, false), true);
    due(p.setPupils(7, 3, false), false);
    for (int s = 0; s < 6; s++) due(p.rank(0, s, 2), s == 3 ? 0 : 1);
  }

  @Edge(promise = 7, says = "Throws IndexOutOfBoundsException if there is no such family or school")
  static void pupilsOfNoFamily() {
    SchoolPlaces p = desk("11");
    dueIndexBeyond(p, 11, n -> p.setPupils(n, 0, true));
    dueIndexBeyond(p, 11, n -> p.setPupils(n, 0, false));
    dueIndexBeyond(p, 1, n -> p.setPupils(0, n, true));
    dueIndexBeyond(p, 1, n -> p.setPupils(0, n, false));
    dueIndex(p, () -> p.setPupils(12, 2, true));
  }

  // ---- promise 8: school

  @Edge(promise = 8, says = "A school has a place, 0 to 12 seats, a radius from 0 to 198, a rule, 0 or 1, a limit for appeals from 0 to "
      + "100, and up to 3 added seats, at first none.")
  static void schoolNumbersAtTheirEnds() {
    SchoolPlaces p = new SchoolPlaces();
    p.addSchool(99, 99, 0, 0);
    due(p.school(0, 4), 0);
    p.setLimit(0, 0);
    crowd(p, 4, "0");
    int[] least = {0, 0, 0, 0, 0};
    for (int what = 0; what < 5; what++) due(p.school(0, what), least[what]);
    for (int i = 0; i < 3; i++) p.appeal(i, 0, 100);
    dueRefused(p, 3, 0, 100, 3);
    p.setSeats(0, 12);
    p.setRadius(0, 198);
    p.setRule(0, 1);
    p.setLimit(0, 100);
    int[] most = {12, 198, 1, 100, 3};
    for (int what = 0; what < 5; what++) due(p.school(0, what), most[what]);
  }

  @Edge(promise = 8, says = "4 for its added seats")
  static void addedSeatsFromNoneToThree() {
    SchoolPlaces p = desk("00");
    crowd(p, 5, "01");
    p.setLimit(0, 0);
    for (int i = 0; i < 3; i++) {
      due(p.school(0, 4), i);
      due(p.appeal(i, 0, 100), 0);
    }
    due(p.school(0, 4), 3);
    due(p.school(1, 4), 0);
    due(p.account(3), 3);
    // seats that are given up, and other seats, leave the added ones as they are
    p.setSeats(0, 0);
    p.withdraw(0);
    due(p.school(0, 4), 3);
    p.allocate();
    due(p.school(0, 4), 0);
  }

  @Edge(promise = 8, says = "5 for the children that hold seats")
  static void holdersFromNoneToFifteen() {
    SchoolPlaces p = desk("0");
    due(p.school(0, 5), 0);
    crowd(p, 16, "0");
    p.setLimit(0, 0);
    for (int i = 0; i < 3; i++) p.appeal(i, 0, 100);
    due(p.school(0, 5), 3);
    due(p.setSeats(0, 12), 12);
    due(p.school(0, 5), 15);
    due(p.school(0, 7), 1);
  }

  @Edge(promise = 8, says = "6 for its free seats")
  static void freeSeatsFromNoneToFifteen() {
    SchoolPlaces p = desk("0");
    due(p.school(0, 6), 0);
    crowd(p, 3, "0");
    p.setLimit(0, 0);
    for (int i = 0; i < 3; i++) p.appeal(i, 0, 100);
    due(p.school(0, 6), 0);
    for (int i = 0; i < 3; i++) {
      p.withdraw(i);
      due(p.school(0, 6), i + 1);
    }
    p.setSeats(0, 12);
    due(p.school(0, 6), 15);
  }

  @Edge(promise = 8, says = "A school has free seats if it holds fewer children than its seats and its added seats together.")
  static void freeSeatsAtTheirEdge() {
    SchoolPlaces p = desk("3");
    crowd(p, 2, "0");
    p.allocate();
    due(p.school(0, 6), 1);
    p.setSeats(0, 2);
    due(p.school(0, 6), 0);
    p.setSeats(0, 1);
    due(p.school(0, 6), 0);
    // an added seat makes no free one while more children hold seats
    read(p, "9,0f9l0:0");
    due(p.appeal(2, 0, 50), 0);
    due(p.school(0, 5), 3);
    due(p.school(0, 6), 0);
    p.withdraw(2);
    due(p.school(0, 6), 0);
    p.withdraw(1);
    due(p.school(0, 6), 1);
  }

  @Edge(promise = 8, says = "free seats are never below 0, and include added ones.")
  static void freeSeatsAreNeverBelowNone() {
    SchoolPlaces p = desk("c");
    crowd(p, 12, "0");
    p.allocate();
    for (int seats = 11; seats >= 0; seats--) {
      p.setSeats(0, seats);
      due(p.school(0, 6), 0);
    }
    due(p.unstable(), 0);
    SchoolPlaces q = desk("0", "0,0f0l0:0", "1,0f1l0:0");
    q.appeal(0, 0, 50);
    q.withdraw(0);
    due(q.school(0, 5), 1);
    q.withdraw(1);
    due(q.school(0, 0), 0);
    due(q.school(0, 6), 1);
  }

  @Edge(promise = 8, says = "7 for the length of its waiting list")
  static void waitingListFromNoneToAll() {
    SchoolPlaces p = desk("01");
    due(p.school(0, 7), 0);
    crowd(p, 24, "01");
    due(p.school(0, 7), 24);
    due(p.school(1, 7), 24);
    p.allocate();
    due(p.school(0, 7), 24);
    due(p.school(1, 7), 23);
  }

  @Edge(promise = 8, says = "8 for the children in its catchment")
  static void catchmentFromNoneToAll() {
    SchoolPlaces p = desk("1");
    p.setRadius(0, 0);
    due(p.school(0, 8), 0);
    for (int i = 0; i < 24; i++) p.addChild(0, i + 1, 0, 0);
    due(p.school(0, 8), 0);
    for (int radius = 1; radius <= 24; radius++) {
      p.setRadius(0, radius);
      due(p.school(0, 8), radius);
    }
  }

  @Edge(promise = 8, says = "A place is in the catchment of a school if its distance from the school is at most the radius.")
  static void catchmentAtItsEdge() {
    SchoolPlaces p = new SchoolPlaces();
    p.addSchool(50, 50, 1, 10);
    int[][] in = {{50, 60}, {50, 40}, {60, 50}, {40, 50}, {55, 45}, {45, 55}};
    for (int[] place : in) p.addChild(place[0], place[1], 0, 0);
    due(p.school(0, 8), 6);
    int[][] out = {{50, 61}, {50, 39}, {61, 50}, {39, 50}, {56, 45}, {44, 55}};
    for (int[] place : out) p.addChild(place[0], place[1], 0, 0);
    due(p.school(0, 8), 6);
    for (int c = 0; c < 12; c++) due(p.rank(c, 0, 0), c < 6 ? 2 : 4);
  }

  @Edge(promise = 8, says = NO_SCHOOL)
  static void numbersOfNoSchool() {
    SchoolPlaces p = desk("11");
    for (int what = 0; what <= 8; what++) {
      int asked = what;
      dueIndexBeyond(p, 1, n -> p.school(n, asked));
    }
  }

  @Edge(promise = 8, says = "Throws IllegalArgumentException if what is out of range")
  static void noSuchNumberOfSchool() {
    SchoolPlaces p = desk("1");
    dueArgumentBeyond(p, 8, n -> p.school(0, n));
  }

  @Edge(promise = 8, says = ORDER)
  static void schoolOrder() {
    SchoolPlaces p = desk("1");
    dueIndex(p, () -> p.school(1, 9));
    dueIndex(p, () -> p.school(-1, -1));
  }

  // ---- promises 9 and 10: held, waiting

  @Edge(promise = 9, says = "index: the index, from 0, the best rank first")
  static void heldFromBestToWorst() {
    SchoolPlaces p = desk("0");
    for (int i = 0; i < 16; i++) read(p, "0," + (20 - i) + "f0l0:0");
    p.setLimit(0, 0);
    for (int i = 15; i > 12; i--) p.appeal(i, 0, 100);
    p.setSeats(0, 12);
    for (int i = 0; i < 15; i++) due(p.held(0, i), 15 - i);
    dueNoneBeyond(p, 14, n -> p.held(0, n));
  }

  @Edge(promise = 9, says = NO_SCHOOL)
  static void heldOfNoSchool() {
    SchoolPlaces p = desk("11", "0,0f0l0:01");
    p.allocate();
    dueIndexBeyond(p, 1, n -> p.held(n, 0));
  }

  @Edge(promise = 9, says = "Throws NoSuchElementException if there is no such index")
  static void noSuchHolder() {
    SchoolPlaces p = desk("11", "0,0f0l0:0", "1,0f1l0:0");
    dueNone(p, () -> p.held(0, 0));
    p.allocate();
    due(p.held(0, 0), 0);
    dueNoneBeyond(p, 0, n -> p.held(0, n));
    dueNoneBeyond(p, -1, n -> p.held(1, n));
  }

  @Edge(promise = 9, says = ORDER)
  static void heldOrder() {
    SchoolPlaces p = desk("1");
    dueIndex(p, () -> p.held(1, 0));
    dueIndex(p, () -> p.held(-1, -1));
  }

  @Edge(promise = 10, says = "The waiting list of a school consists of all children who prefer it, in the order of their ranks.")
  static void waitingListOfThoseWhoPrefer() {
    // 0 holds its first choice, 1 its second one, 2 holds none, 3 holds a choice that comes before, 4 has no choices
    SchoolPlaces p = desk("011", "0,0f0l0:10", "1,0f1l0:02", "2,0f2l0:12", "3,0f3l0:0", "0,0f4l0");
    p.setNeed(1, 2);
    p.allocate();
    due(seats(p), "1 2 -1 -1 -1");
    due(list(p, 0, false), "1 3");
    due(list(p, 1, false), "2");
    due(list(p, 2, false), "2");
    p.setNeed(3, 0);
    due(list(p, 0, false), "3 1");
  }

  @Edge(promise = 10, says = "index: the index, from 0, the best rank first")
  static void waitingFromFirstToLast() {
    SchoolPlaces p = desk("0");
    for (int i = 0; i < 24; i++) read(p, "0,0f0l" + (999 - i) + ":0");
    for (int i = 0; i < 24; i++) due(p.waiting(0, i), 23 - i);
    dueNoneBeyond(p, 23, n -> p.waiting(0, n));
  }

  @Edge(promise = 10, says = "Of two children, the one with the lower class has the better rank at the school;")
  static void lowerClassComesFirst() {
    // class by class, the one of the lower class is behind in distance, lot and number
    SchoolPlaces p = desk("0");
    p.setPupils(0, 0, true);
    read(p, "0,0f0l0:0");
    read(p, "9,0f0l9:0");
    due(p.rank(1, 0, 0), 1);
    p.setNeed(1, 0);
    due(list(p, 0, false), "1 0");
    SchoolPlaces q = desk("0", "0,0f0l0:0", "20,0f1l999:0");
    due(list(q, 0, false), "0 1");
    q.setPupils(1, 0, true);
    due(list(q, 0, false), "1 0");
    SchoolPlaces r = new SchoolPlaces();
    r.addSchool(0, 0, 0, 198);
    read(r, "0,0f0l0:0");
    read(r, "99,99f1l999:0");
    r.setNeed(1, 0);
    due(list(r, 0, false), "1 0");
    // the furthest of a class comes before the nearest of the next one
    r.setNeed(1, -1);
    due(list(r, 0, false), "0 1");
    r.setPupils(1, 0, true);
    due(list(r, 0, false), "1 0");
    r.setNeed(1, 0);
    r.setPupils(0, 0, true);
    due(r.rank(0, 0, 0), 1);
    due(list(r, 0, false), "1 0");
    // a sibling outside the catchment comes behind the furthest child inside, and before a nearer one outside
    SchoolPlaces s = desk("0", "20,0f0l999:0", "99,99f1l999:0", "21,0f2l0:0");
    s.setPupils(1, 0, true);
    due(list(s, 0, false), "0 1 2");
    s.setRule(0, 1);
    due(list(s, 0, false), "1 0 2");
  }

  @Edge(promise = 10, says = "of several, the one with the lesser distance of its place from the school;")
  static void lesserDistanceComesNext() {
    SchoolPlaces p = desk("0", "10,10f0l0:0", "10,9f0l999:0", "99,99f0l0:0", "99,98f0l999:0");
    due(list(p, 0, false), "1 0 3 2");
  }

  @Edge(promise = 10, says = "of several, the one with the lower lot;")
  static void lowerLotComesNext() {
    SchoolPlaces p = desk("0", "9,9f0l999:0", "9,9f0l998:0", "18,0f0l1:0", "0,18f0l0:0");
    due(list(p, 0, false), "3 2 1 0");
  }

  @Edge(promise = 10, says = "of several, the one with the lower number.")
  static void lowerNumberComesLast() {
    SchoolPlaces p = desk("0");
    for (int i = 0; i < 24; i++) read(p, "9,9f" + i % 12 + "l5:0");
    for (int i = 0; i < 24; i++) due(p.waiting(0, i), i);
  }

  @Edge(promise = 10, says = NO_SCHOOL)
  static void waitingAtNoSchool() {
    SchoolPlaces p = desk("00", "0,0f0l0:01");
    dueIndexBeyond(p, 1, n -> p.waiting(n, 0));
  }

  @Edge(promise = 10, says = "Throws NoSuchElementException if there is no such index")
  static void noSuchWaiter() {
    SchoolPlaces p = desk("00", "0,0f0l0:0", "1,0f0l0");
    due(p.waiting(0, 0), 0);
    dueNoneBeyond(p, 0, n -> p.waiting(0, n));
    dueNoneBeyond(p, -1, n -> p.waiting(1, n));
  }

  @Edge(promise = 10, says = ORDER)
  static void waitingOrder() {
    SchoolPlaces p = desk("0");
    dueIndex(p, () -> p.waiting(1, 0));
    dueIndex(p, () -> p.waiting(-1, -1));
  }
}
