/** A test for each sentence of promises 25 to 32, and of what they rest on, that names a boundary case. */
final class EdgesOfRecords extends Checks {
  private static final String ORDER = "The exceptions of a method are checked in the order in which they are listed.";
  private static final String UNCHANGED = "A method that throws an exception leaves everything unchanged, except that the input is treated as "
      + "described, and that reasons, error positions and refused appeals are kept.";
  private static final String CHANGES = "The changes are the successful calls of addSchool, setSeats, setRadius, setRule, setLimit, setPupils, "
      + "addChild, readChild, choose, setNeed, allocate, withdraw and appeal, and those of appeal that are refused for the reason 3 or 4.";
  private static final String NOT_BACK = "The input, the error position and the reason do not go back.";

  private EdgesOfRecords() { }

  // ---- promise 25: entry

  @Edge(promise = 25, says = "0, after all rounds of an allocation, for each child whose seat is at another school than before it, or that has one "
      + "now or had one before it, but not both, in ascending order of the children;")
  static void entriesOfAllocation() {
    // 0 had none and has none, 1 gets one, 2 keeps its own, 3 loses one, 4 gets another one
    SchoolPlaces p = desk("1111", "0,0f0l0", "0,0f1l0", "0,0f2l0:1", "0,0f3l0:0", "0,0f4l0:2");
    p.allocate();
    p.choose(1, 0, 0);
    p.choose(4, 3, 0);
    p.setNeed(1, 0);
    int before = p.account(8);
    due(p.allocate(), 1);
    due(seats(p), "-1 0 1 -1 3");
    due(entries(p, before), "0:1:-1:0 0:3:0:-1 0:4:2:3");
    due(p.allocate(), 1);
    due(p.account(8), before + 3);
  }

  @Edge(promise = 25, says = "1, a seat that a child gets by filling;")
  static void entriesOfFilling() {
    SchoolPlaces p = desk("00", "0,0f0l0:10");
    p.setSeats(0, 1);
    p.setSeats(1, 1);
    due(entries(p, 0), "1:0:-1:0 1:0:0:1");
  }

  @Edge(promise = 25, says = "2, a seat that it gets by an appeal;")
  static void entriesOfAppeals() {
    SchoolPlaces p = desk("00", "0,0f0l0:10");
    p.appeal(0, 0, 50);
    p.appeal(0, 1, 50);
    due(entries(p, 0), "2:0:-1:0 2:0:0:1");
  }

  @Edge(promise = 25, says = "3, a seat that it gives up.")
  static void entriesOfWithdrawals() {
    SchoolPlaces p = desk("000001", "0,0f0l0:5");
    p.allocate();
    p.withdraw(0);
    due(entries(p, 0), "0:0:-1:5 3:0:5:-1");
  }

  @Edge(promise = 25, says = "what: 0 for its kind, 1 for its child, 2 for the school that it left, 3 for the school at which it got a seat")
  static void partsOfEntries() {
    SchoolPlaces p = desk("000001");
    crowd(p, 24, "5");
    p.setNeed(23, 5);
    p.allocate();
    p.withdraw(23);
    // child 11 is of the family of child 23, and so it comes first
    int[][] due = {{0, 23, -1, 5}, {3, 23, 5, -1}, {1, 11, -1, 5}};
    for (int e = 0; e < 3; e++) {
      for (int what = 0; what < 4; what++) due(p.entry(e, what), due[e][what]);
    }
  }

  /** 24 entries a turn: twelve seats that are got by filling, and lost by the allocation. */
  private static SchoolPlaces deskWithEntries(int turns) {
    SchoolPlaces p = desk("0");
    crowd(p, 12, "0");
    for (int i = 0; i < turns; i++) {
      p.setSeats(0, 12);
      p.setSeats(0, 0);
      p.allocate();
    }
    return p;
  }

  @Edge(promise = 25, says = "The first 80 entries are kept.")
  static void eightyEntriesAreKept() {
    SchoolPlaces p = deskWithEntries(3);
    due(p.account(8), 72);
    String first = entries(p, 0);
    due(p.setSeats(0, 7), 7);
    due(p.account(8), 79);
    due(entryOf(p, 78), "1:6:-1:0");
    dueNone(p, () -> p.entry(79, 0));
    due(p.setSeats(0, 8), 1);
    due(p.account(8), 80);
    due(entryOf(p, 79), "1:7:-1:0");
    dueNone(p, () -> p.entry(80, 0));
    due(p.setSeats(0, 12), 4);
    due(p.account(8), 84);
    due(entryOf(p, 79), "1:7:-1:0");
    dueNone(p, () -> p.entry(80, 0));
    dueNone(p, () -> p.entry(83, 0));
    due(entries(p, 0).substring(0, first.length()), first);
    // all at once over the edge, in the midst of one call
    SchoolPlaces q = deskWithEntries(3);
    due(q.setSeats(0, 12), 12);
    due(q.account(8), 84);
    due(entryOf(q, 79), "1:7:-1:0");
    dueNone(q, () -> q.entry(80, 0));
    // behind an undo other entries take the free places
    due(q.undo(), 7);
    due(q.account(8), 72);
    dueNone(q, () -> q.entry(72, 0));
    q.setNeed(11, 0);
    due(q.setSeats(0, 12), 12);
    due(entryOf(q, 72), "1:11:-1:0");
    due(entryOf(q, 79), "1:6:-1:0");
    dueNone(q, () -> q.entry(80, 0));
  }

  @Edge(promise = 25, says = "entry: the entry, from 0")
  static void entriesFromTheFirst() {
    SchoolPlaces p = desk("2", "0,0f0l0:0", "1,0f1l0:0");
    p.allocate();
    due(p.entry(0, 1), 0);
    due(p.entry(1, 1), 1);
    dueNone(p, () -> p.entry(-1, 1));
    dueNone(p, () -> p.entry(2, 1));
  }

  @Edge(promise = 25, says = "Throws NoSuchElementException if no such entry is kept")
  static void noSuchEntry() {
    SchoolPlaces p = desk("1", "0,0f0l0:0");
    dueNoneBeyond(p, -1, n -> p.entry(n, 0));
    p.allocate();
    due(p.entry(0, 0), 0);
    dueNoneBeyond(p, 0, n -> p.entry(n, 0));
    p.undo();
    dueNone(p, () -> p.entry(0, 0));
    SchoolPlaces q = deskWithEntries(5);
    due(q.account(8), 120);
    dueNoneBeyond(q, 79, n -> q.entry(n, 3));
    dueNone(q, () -> q.entry(119, 3));
  }

  @Edge(promise = 25, says = "Throws IllegalArgumentException if what is out of range")
  static void noSuchPart() {
    SchoolPlaces p = deskWithEntries(4);
    dueArgumentBeyond(p, 3, n -> p.entry(0, n));
    dueArgumentBeyond(p, 3, n -> p.entry(79, n));
  }

  @Edge(promise = 25, says = ORDER)
  static void entryOrder() {
    SchoolPlaces p = desk("1", "0,0f0l0:0");
    dueNone(p, () -> p.entry(0, 4));
    p.allocate();
    dueNone(p, () -> p.entry(1, 4));
    dueNone(p, () -> p.entry(-1, -1));
  }

  // ---- promise 26: account

  @Edge(promise = 26, says = "2 for all seats, without the added ones")
  static void seatsWithoutAddedOnes() {
    SchoolPlaces p = desk("cccccc");
    due(p.account(0), 6);
    due(p.account(2), 72);
    SchoolPlaces q = desk("00", "0,0f0l0:0");
    due(q.account(2), 0);
    q.appeal(0, 0, 50);
    due(q.account(2), 0);
    due(q.account(4), 1);
  }

  @Edge(promise = 26, says = "3 for all added seats")
  static void allAddedSeats() {
    SchoolPlaces p = desk("000000");
    crowd(p, 18, "0");
    for (int c = 0; c < 18; c++) {
      due(p.account(3), c);
      int school = c / 3;
      p.choose(c, school, 0);
      p.setLimit(school, 0);
      due(p.appeal(c, school, 100), 0);
    }
    due(p.account(3), 18);
    due(p.account(2), 0);
    p.allocate();
    due(p.account(3), 0);
  }

  @Edge(promise = 26, says = "4 for the children that hold seats")
  static void allThatHoldSeats() {
    SchoolPlaces p = desk("cc");
    crowd(p, 24, "01");
    due(p.account(4), 0);
    p.allocate();
    due(p.account(4), 24);
    due(p.account(1), 24);
    p.withdraw(0);
    due(p.account(4), 23);
  }

  @Edge(promise = 26, says = "5 for those that hold a seat at their first choice")
  static void allAtTheirFirstChoice() {
    SchoolPlaces p = desk("12", "0,0f0l0:0", "1,0f1l0:01", "2,0f2l0:01", "3,0f3l0:0", "0,0f4l0");
    due(p.account(5), 0);
    p.allocate();
    due(p.account(4), 3);
    due(p.account(5), 1);
    p.choose(1, 1, 0);
    due(p.account(5), 2);
    p.choose(0, 1, 0);
    due(p.account(5), 1);
  }

  @Edge(promise = 26, says = "6 for those with choices that hold no seat")
  static void allThatAreLeftOut() {
    SchoolPlaces p = desk("1", "0,0f0l0:0", "1,0f1l0:0", "2,0f2l0");
    due(p.account(6), 2);
    p.allocate();
    due(p.account(6), 1);
    p.withdraw(0);
    due(p.account(6), 0);
    p.withdraw(1);
    due(p.account(6), 0);
  }

  @Edge(promise = 26, says = "7 for the sum of the distances of all children from the schools at which they hold seats")
  static void sumOfDistances() {
    SchoolPlaces p = desk("cc");
    for (int c = 0; c < 24; c++) read(p, "99,99f0l0:01");
    due(p.account(7), 0);
    p.allocate();
    due(p.account(7), 24 * 198);
    SchoolPlaces q = desk("1", "0,0f0l0:0", "5,0f1l0:0");
    q.addSchool(9, 9, 1, 0);
    q.allocate();
    due(q.account(7), 0);
    q.choose(1, 1, 1);
    q.allocate();
    due(q.account(7), 13);
  }

  @Edge(promise = 26, says = "8 for all entries of the journal, also those that are not kept")
  static void allEntries() {
    due(desk("1").account(8), 0);
    due(deskWithEntries(3).account(8), 72);
    due(deskWithEntries(4).account(8), 96);
    SchoolPlaces p = deskWithEntries(20);
    due(p.account(8), 480);
    p.undo();
    due(p.account(8), 468);
  }

  @Edge(promise = 26, says = "9 for the changes that can be undone")
  static void changesFromNoneToEight() {
    SchoolPlaces p = new SchoolPlaces();
    for (int i = 0; i < 20; i++) {
      due(p.account(9), Math.min(i, 8));
      if (i < 6) p.addSchool(i, i, i, i); else p.setLimit(0, i);
    }
    for (int i = 8; i > 0; i--) {
      due(p.account(9), i);
      p.undo();
    }
    due(p.account(9), 0);
  }

  @Edge(promise = 26, says = "10 for the characters of the input")
  static void charactersFromNoneToForty() {
    SchoolPlaces p = new SchoolPlaces();
    for (int i = 0; i < 40; i++) {
      due(p.account(10), i);
      p.feed('0');
    }
    due(p.account(10), 40);
    dueState(p, () -> p.feed('0'));
    due(p.account(10), 40);
  }

  @Edge(promise = 26, says = "Throws IllegalArgumentException if what is out of range")
  static void noSuchAccount() {
    SchoolPlaces p = desk("1", "0,0f0l0:0");
    dueArgumentBeyond(p, 10, n -> p.account(n));
  }

  // ---- promise 27: meanDistance

  @Edge(promise = 27, says = "Returns the mean distance: the account 7, divided by the account 4, both converted to double.")
  static void meanIsNotRounded() {
    SchoolPlaces p = desk("3", "0,0f0l0:0");
    p.allocate();
    due(p.meanDistance() == 0.0, true);
    read(p, "1,0f1l0:0");
    read(p, "0,0f2l0:0");
    p.allocate();
    due(p.meanDistance() == 1.0 / 3.0, true);
    SchoolPlaces q = desk("cc");
    for (int c = 0; c < 24; c++) read(q, "99,99f0l0:01");
    q.allocate();
    due(q.meanDistance() == 198.0, true);
  }

  @Edge(promise = 27, says = "Throws ArithmeticException if no child holds a seat")
  static void noMean() {
    SchoolPlaces p = new SchoolPlaces();
    dueThrow(p, ArithmeticException.class, p::meanDistance);
    p.addSchool(0, 0, 1, 1);
    read(p, "5,0f0l0:0");
    dueThrow(p, ArithmeticException.class, p::meanDistance);
    p.allocate();
    due(p.meanDistance() == 5.0, true);
    p.withdraw(0);
    dueThrow(p, ArithmeticException.class, p::meanDistance);
    p.undo();
    due(p.meanDistance() == 5.0, true);
  }

  // ---- promise 28: feed

  @Edge(promise = 28, says = "There is an input of at most 40 characters.")
  static void fortyCharacters() {
    SchoolPlaces p = desk("1");
    for (int i = 1; i <= 40; i++) due(p.feed('7'), i);
    dueState(p, () -> p.feed('7'));
    dueThrow(IllegalArgumentException.class, p::readChild);
    due(p.errorPosition(), 3);
    for (int i = 1; i <= 40; i++) due(p.feed('7'), i);
  }

  @Edge(promise = 28, says = "character: any character")
  static void anyCharacter() {
    SchoolPlaces p = desk("1");
    int[] all = {0, 1, 10, 127, 128, 255, 256, 48 + 256, 44 + 256, 48 + 65280, 0xd800, 0xdfff, 0xffff};
    for (int i = 0; i < all.length; i++) due(p.feed((char) all[i]), i + 1);
    dueThrow(IllegalArgumentException.class, p::readChild);
    for (int sign : all) dueWrongText(p, String.valueOf((char) sign), 0);
    for (int sign : all) dueWrongText(p, "1,1f1l1" + (char) sign, 7);
  }

  @Edge(promise = 28, says = "Appends a character to the input.")
  static void feedAppends() {
    SchoolPlaces p = desk("1");
    due(p.feed('1'), 1);
    due(p.feed(','), 2);
    p.undo();
    p.save();
    p.restore();
    due(p.feed('2'), 3);
    feed(p, "f3l4");
    due(p.readChild(), 0);
    due(p.child(0, 0), 3);
    due(p.feed('1'), 1);
  }

  @Edge(promise = 28, says = "Throws IllegalStateException if the input has 40 characters")
  static void feedTheFortyFirst() {
    SchoolPlaces p = desk("1");
    feed(p, "1,1f1l1:0");
    for (int i = 10; i <= 40; i++) due(p.feed('x'), i);
    for (int sign : new int[] {'x', '0', 0, 0xffff}) dueState(p, () -> p.feed((char) sign));
    dueThrow(IllegalArgumentException.class, p::readChild);
    due(p.errorPosition(), 9);
    due(p.feed('x'), 1);
  }

  // ---- promise 29: errorPosition

  @Edge(promise = 29, says = "The error position of a text is the position, from 0, of the first character that cannot continue such a text, or its "
      + "length if it ends too early.")
  static void positionsInAWholeText() {
    SchoolPlaces p = desk("111111");
    for (String whole : new String[] {"012,034f005l678:0123", "1,2f3l4:5", "12,34f11l99:10"}) {
      for (int length = 0; length <= whole.length(); length++) {
        String start = whole.substring(0, length);
        for (String sign : new String[] {"x", " ", "-", ";", "\0", "F", "L"}) dueWrongText(p, start + sign, length);
        boolean lot = start.indexOf('l') > 0 && start.indexOf('l') < length - 1;
        if (!lot || start.endsWith(":")) dueWrongText(p, start, length);
      }
    }
    // the first of several errors counts, also before an end that comes too early
    dueWrongText(p, "1x2y3z", 1);
    dueWrongText(p, "1,1f1l1:11:", 9);
    dueWrongText(p, "012,034f005l678:0123" + "01230123012301230123", 20);
    due(p.account(1), 0);
  }

  @Edge(promise = 29, says = "Only an error of a text has an error position, not a number out of range or a school that there is not.")
  static void noPositionWithoutError() {
    SchoolPlaces p = desk("11111");
    String[] texts = {"100,1f1l1", "1,100f1l1", "1,1f12l1", "1,1f1l1:5", "1,1f1l1:05", "999,999f999l999:5"};
    for (String text : texts) dueRefusedText(p, text, IllegalArgumentException.class);
    dueNone(p, p::errorPosition);
    dueWrongText(p, "1,", 2);
    for (String text : texts) dueRefusedText(p, text, IllegalArgumentException.class);
    due(p.errorPosition(), 2);
    // an error counts also where a number before it is out of range
    dueWrongText(p, "999,1f1l1:6", 10);
    dueWrongText(p, "1,1f99l", 7);
  }

  @Edge(promise = 29, says = "Returns the error position of the text that was read last with an error.")
  static void positionOfTheLastError() {
    SchoolPlaces p = desk("1");
    dueWrongText(p, "1,1f1l1:", 8);
    due(read(p, "1,1f1l1:0"), 0);
    due(p.errorPosition(), 8);
    dueWrongText(p, "", 0);
    due(p.errorPosition(), 0);
    due(p.errorPosition(), 0);
    feed(p, "123456");
    due(p.errorPosition(), 0);
    dueThrow(IllegalArgumentException.class, p::readChild);
    due(p.errorPosition(), 3);
  }

  @Edge(promise = 29, says = "Throws NoSuchElementException if no text had an error")
  static void noTextHadAnError() {
    SchoolPlaces p = desk("1");
    dueNone(p, p::errorPosition);
    feed(p, "1,1f1l1");
    dueNone(p, p::errorPosition);
    p.readChild();
    dueNone(p, p::errorPosition);
    crowd(p, 23, "0");
    dueRefusedText(p, "1,1f1l1", IllegalStateException.class);
    dueNone(p, p::errorPosition);
    dueWrongText(p, "", 0);
  }

  // ---- promise 30: undo

  /** Each change, from a desk on which all of them succeed, or are refused as an appeal for the reason 3 or 4. */
  private static Call[] changes(SchoolPlaces p) {
    return new Call[] {() -> p.addSchool(1, 1, 1, 1), () -> p.setSeats(0, 2), () -> p.setRadius(0, 9), () -> p.setRule(0, 1),
      () -> p.setLimit(1, 49), () -> p.setPupils(1, 0, true), () -> p.addChild(1, 1, 1, 1), () -> read(p, "1,1f1l1:10"),
      () -> p.choose(0, 1, 0), () -> p.setNeed(1, 1), p::allocate, () -> p.withdraw(0), () -> p.appeal(1, 0, 60),
      () -> dueRefused(p, 2, 1, 100, 3), () -> dueRefused(p, 1, 0, 0, 4)};
  }

  /** Child 0 holds the seat of school 0, children 1 and 2 wait there; school 1 has three added seats, and none is free. */
  private static SchoolPlaces deskForChanges() {
    SchoolPlaces p = desk("10", "0,0f0l0:0", "1,0f1l0:0", "2,0f2l0:01", "3,0f3l0:1", "3,0f4l0:1", "3,0f5l0:1");
    p.allocate();
    p.setLimit(1, 0);
    for (int c = 3; c < 6; c++) p.appeal(c, 1, 100);
    return p;
  }

  @Edge(promise = 30, says = CHANGES)
  static void eachChangeIsUndone() {
    for (int i = 0; i < 15; i++) {
      SchoolPlaces p = deskForChanges();
      p.save();
      p.restore();
      String before = withoutReason(Calls.everything(p));
      changes(p)[i].make();
      due(p.account(9), 1);
      if (withoutReason(withoutUndos(Calls.everything(p))).equals(withoutUndos(before))) fault("change " + i + " changed nothing");
      due(p.undo(), 0);
      due(withoutReason(Calls.everything(p)), before);
      dueState(p, p::undo);
    }
  }

  @Edge(promise = 30, says = CHANGES)
  static void sameValuesAreChangesToo() {
    SchoolPlaces p = desk("1", "0,0f0l0:0");
    p.save();
    p.restore();
    p.setSeats(0, 1);
    due(p.account(9), 1);
    p.setRadius(0, 20);
    p.setRule(0, 0);
    p.setLimit(0, 50);
    p.setPupils(0, 0, false);
    p.choose(0, 0, 0);
    p.setNeed(0, -1);
    due(p.account(9), 7);
    p.allocate();
    due(p.account(9), 8);
    SchoolPlaces q = new SchoolPlaces();
    q.allocate();
    due(q.account(9), 1);
  }

  @Edge(promise = 30, says = CHANGES)
  static void otherCallsAreNoChanges() {
    SchoolPlaces p = deskForChanges();
    p.save();
    p.restore();
    Calls.everything(p);
    p.save();
    p.again(0);
    p.unstable();
    feed(p, "x");
    dueThrow(IllegalArgumentException.class, p::readChild);
    dueRefused(p, 0, 0, 100, 1);
    due(p.account(9), 0);
    dueRefused(p, 2, 0, 0, 4);
    due(p.account(9), 1);
    dueRefused(p, 2, 0, 0, 2);
    due(p.account(9), 1);
    due(p.undo(), 0);
    due(p.child(2, 7), 0);
  }

  @Edge(promise = 30, says = "The latest 8 of them can be undone.")
  static void eightChangesCanBeUndone() {
    for (int changes = 7; changes <= 40; changes++) {
      SchoolPlaces p = new SchoolPlaces();
      p.addSchool(0, 0, 0, 0);
      p.save();
      p.restore();
      for (int i = 1; i <= changes; i++) p.setRadius(0, i);
      int undone = Math.min(changes, 8);
      due(p.account(9), undone);
      for (int i = 1; i <= undone; i++) {
        due(p.undo(), undone - i);
        due(p.school(0, 1), changes - i);
      }
      dueState(p, p::undo);
    }
  }

  @Edge(promise = 30, says = "Undoes the latest change that was not undone.")
  static void undoAmongChanges() {
    SchoolPlaces p = desk("0");
    p.setRadius(0, 1);
    p.setRadius(0, 2);
    p.setRadius(0, 3);
    due(p.undo(), 3);
    due(p.undo(), 2);
    due(p.school(0, 1), 1);
    p.setRadius(0, 4);
    due(p.undo(), 2);
    due(p.school(0, 1), 1);
    due(p.undo(), 1);
    due(p.school(0, 1), 20);
    // over the edge of eight, forth and back
    for (int i = 1; i <= 30; i++) {
      p.setRadius(0, 100 + i);
      p.setRadius(0, 50);
      p.setRadius(0, 51);
      p.undo();
      p.undo();
      due(p.school(0, 1), 100 + i);
    }
    due(p.account(9), 6);
    for (int i = 29; i >= 24; i--) {
      p.undo();
      due(p.school(0, 1), 100 + i);
    }
    dueState(p, p::undo);
  }

  @Edge(promise = 30, says = NOT_BACK)
  static void whatDoesNotGoBack() {
    SchoolPlaces p = desk("0", "0,0f0l0:0");
    dueRefused(p, 0, 0, 0, 4);
    dueWrongText(p, "1", 1);
    read(p, "2,2f2l2");
    feed(p, "abc");
    due(p.undo(), 3);
    due(p.account(10), 3);
    due(p.errorPosition(), 1);
    due(p.undo(), 2);
    due(p.reason(), 4);
    due(p.undo(), 1);
    due(p.undo(), 0);
    due(p.account(10), 3);
    due(p.errorPosition(), 1);
    due(p.reason(), 4);
    dueThrow(IllegalArgumentException.class, p::readChild);
    due(p.errorPosition(), 0);
  }

  @Edge(promise = 30, says = "Throws IllegalStateException if there is none")
  static void nothingToUndo() {
    SchoolPlaces p = new SchoolPlaces();
    dueState(p, p::undo);
    p.addSchool(1, 1, 1, 1);
    due(p.undo(), 0);
    dueState(p, p::undo);
    dueArgument(p, () -> p.addSchool(100, 1, 1, 1));
    dueState(p, p::undo);
    p.save();
    dueState(p, p::undo);
    due(p.addSchool(2, 2, 2, 2), 0);
    due(p.undo(), 0);
  }

  /** Makes each call that throws, on a full desk with refused appeals; only the reason and the error position change. */
  private static void callAllThatThrow(SchoolPlaces p) {
    int[] bad = {-1, 6, MOST};
    for (int n : bad) {
      dueIndex(p, () -> p.setSeats(n, 1));
      dueIndex(p, () -> p.setRadius(n, 1));
      dueIndex(p, () -> p.setRule(n, 1));
      dueIndex(p, () -> p.setLimit(n, 1));
      dueIndex(p, () -> p.setPupils(0, n, true));
      dueIndex(p, () -> p.choose(0, n, 0));
      dueIndex(p, () -> p.appeal(0, n, 1));
    }
    for (int n : new int[] {-1, 24, LEAST}) {
      dueIndex(p, () -> p.setPupils(n, 0, true));
      dueIndex(p, () -> p.choose(n, 0, 0));
      dueIndex(p, () -> p.setNeed(n, 0));
      dueIndex(p, () -> p.withdraw(n));
      dueIndex(p, () -> p.appeal(n, 0, 1));
      dueArgument(p, () -> p.setSeats(0, n));
      dueArgument(p, () -> p.setRule(0, n));
      dueArgument(p, () -> p.choose(0, 0, n));
      dueArgument(p, () -> p.addSchool(n, 1, 99, 1));
      dueArgument(p, () -> p.addChild(n, 100, 1, 1));
    }
    dueIndex(p, () -> p.setNeed(0, 6));
    dueArgument(p, () -> p.setRadius(0, 199));
    dueArgument(p, () -> p.setLimit(0, 101));
    dueArgument(p, () -> p.appeal(0, 1, 101));
    dueState(p, () -> p.addSchool(1, 1, 1, 1));
    dueState(p, () -> p.addChild(1, 1, 1, 1));
    dueState(p, () -> p.choose(23, 4, 0));
    dueThrow(p, UnsupportedOperationException.class, () -> p.withdraw(23));
    dueRefused(p, 0, 5, 1, 1);
    dueRefused(p, 23, 0, 1, 2);
    for (String text : new String[] {"1,1f1l1", "1,1f1l1:0"}) dueRefusedText(p, text, IllegalStateException.class);
    for (String text : new String[] {"100,1f1l1", "1,1f12l1:0"}) dueRefusedText(p, text, IllegalArgumentException.class);
    dueWrongText(p, "1,1f1l1:6", 8);
    feed(p, "0123456789012345678901234567890123456789");
    dueState(p, () -> p.feed('x'));
    dueThrow(IllegalArgumentException.class, p::readChild);
  }

  private static SchoolPlaces fullDesk() {
    SchoolPlaces p = desk("200000");
    crowd(p, 23, "01");
    read(p, "9,9f9l9:0123");
    p.allocate();
    p.save();
    p.setRadius(0, 11);
    p.setRule(1, 1);
    p.setPupils(9, 0, true);
    p.setNeed(5, 0);
    p.withdraw(0);
    p.setSeats(0, 3);
    p.choose(2, 3, 0);
    dueRefused(p, 23, 0, 0, 4);
    return p;
  }

  @Edge(promise = 30, says = UNCHANGED)
  static void throwsLeaveUndosUnchanged() {
    SchoolPlaces p = fullDesk();
    SchoolPlaces q = fullDesk();
    callAllThatThrow(p);
    due(p.account(9), 8);
    for (int left = 7; left >= 0; left--) {
      due(withoutTold(p), withoutTold(q));
      due(p.undo(), left);
      q.undo();
    }
    due(withoutTold(p), withoutTold(q));
    // and a call of undo that throws leaves all as it is
    dueState(p, p::undo);
  }

  @Edge(promise = 32, says = UNCHANGED)
  static void throwsLeaveTheSavedDeskUnchanged() {
    SchoolPlaces p = fullDesk();
    SchoolPlaces q = fullDesk();
    callAllThatThrow(p);
    due(p.restore(), q.restore());
    due(withoutTold(p), withoutTold(q));
  }

  @Edge(promise = 23, says = UNCHANGED)
  static void refusedAppealsAreKept() {
    SchoolPlaces p = desk("0", "0,0f0l0:0");
    String before = Calls.everything(p);
    dueRefused(p, 0, 0, 49, 4);
    String after = Calls.everything(p);
    due(p.child(0, 7), 1);
    due(p.undo(), 2);
    due(withoutReason(Calls.everything(p)), withoutReason(before));
    dueRefused(p, 0, 0, 49, 4);
    due(Calls.everything(p), after);
  }

  @Edge(promise = 12, says = UNCHANGED)
  static void errorPositionsAreKept() {
    SchoolPlaces p = desk("1");
    dueWrongText(p, "1,1f", 4);
    dueIndex(p, () -> p.setNeed(0, 0));
    due(p.errorPosition(), 4);
    due(p.account(10), 0);
  }

  // ---- promises 31 and 32: save, restore

  @Edge(promise = 31, says = "Saves the schools, pupils, children, marks, seats, appeals and the journal, in place of what was saved before.")
  static void saveReplaces() {
    SchoolPlaces p = new SchoolPlaces();
    due(p.save(), 0);
    p.addSchool(1, 1, 1, 1);
    due(p.save(), 0);
    read(p, "1,1f1l1:0");
    p.allocate();
    due(p.save(), 1);
    due(p.save(), 1);
    p.withdraw(0);
    p.addSchool(2, 2, 2, 2);
    due(p.restore(), 1);
    due(p.account(0), 1);
    due(p.account(1), 1);
    due(seats(p), "0");
    // a smaller desk that is saved in place of a fuller one takes nothing over from it
    SchoolPlaces r = desk("1", "1,1f1l1:0");
    String all = withoutTold(r);
    crowd(r, 3, "0");
    r.allocate();
    due(r.save(), 1);
    for (int i = 0; i < 4; i++) r.undo();
    due(r.save(), 0);
    crowd(r, 5, "0");
    due(r.restore(), 0);
    due(withoutTold(r), all);
  }

  @Edge(promise = 31, says = "Saves the schools, pupils, children, marks, seats, appeals and the journal, in place of what was saved before.")
  static void allIsSaved() {
    SchoolPlaces p = fullDesk();
    String all = withoutTold(p);
    due(p.save(), 3);
    due(p.account(9), 8);
    p.setRadius(0, 1);
    p.setPupils(3, 3, true);
    p.setLimit(2, 2);
    p.setRule(0, 1);
    for (int c = 0; c < 24; c++) p.setNeed(c, c % 6);
    p.setSeats(0, 12);
    p.allocate();
    due(p.restore(), 3);
    due(withoutTold(p), all);
  }

  @Edge(promise = 31, says = "Saves the schools, pupils, children, marks, seats, appeals and the journal, in place of what was saved before.")
  static void savedSchoolsAndChildrenComeBackOverOthers() {
    SchoolPlaces p = new SchoolPlaces();
    p.addSchool(11, 22, 3, 44);
    p.addChild(55, 66, 7, 888);
    p.choose(0, 0, 0);
    String all = withoutTold(p);
    p.save();
    for (int i = 0; i < 3; i++) p.undo();
    p.addSchool(90, 98, 0, 0);
    p.addChild(0, 1, 2, 3);
    p.choose(0, 0, 0);
    due(p.restore(), 0);
    due(p.rank(0, 0, 1), 44 + 44);
    due(p.child(0, 0), 7);
    due(p.child(0, 1), 888);
    due(withoutTold(p), all);
  }

  @Edge(promise = 31, says = "Saves the schools, pupils, children, marks, seats, appeals and the journal, in place of what was saved before.")
  static void savedJournalComesBackOverOtherEntries() {
    SchoolPlaces p = deskWithEntries(2);
    p.setSeats(0, 12);
    for (int c = 0; c < 4; c++) p.withdraw(c);
    due(p.account(8), 64);
    p.setSeats(0, 0);
    String saved = entries(p, 0);
    due(p.save(), 8);
    for (int i = 0; i < 8; i++) p.undo();
    due(p.account(8), 36);
    p.setNeed(11, 0);
    p.setSeats(0, 0);
    p.allocate();
    for (int i = 0; i < 4; i++) {
      p.setSeats(0, 12);
      p.setSeats(0, 0);
      p.allocate();
    }
    due(p.account(8) > 80, true);
    due(p.restore(), 8);
    due(p.account(8), 64);
    due(entries(p, 0), saved);
    dueNone(p, () -> p.entry(64, 0));
  }

  @Edge(promise = 32, says = "Restores what was saved last, which stays saved.")
  static void savedDeskStaysSaved() {
    SchoolPlaces p = desk("1", "0,0f0l0:0");
    p.allocate();
    due(p.save(), 1);
    for (int turn = 0; turn < 3; turn++) {
      p.withdraw(0);
      p.addSchool(9, 9, 9, 9);
      p.addChild(9, 9, 9, 9);
      p.setLimit(0, turn);
      due(p.restore(), 1);
      due(seats(p), "0");
      due(choices(p, 0), "0");
      due(p.account(0), 1);
      due(p.account(8), 1);
      due(p.school(0, 3), 50);
    }
    // an undo behind it leaves what is saved
    p.setLimit(0, 1);
    p.undo();
    p.withdraw(0);
    due(p.restore(), 1);
    // what was saved last, not first
    p.withdraw(0);
    due(p.save(), 0);
    p.allocate();
    due(p.restore(), 0);
    due(p.account(8), 2);
  }

  @Edge(promise = 32, says = "Nothing can be undone then.")
  static void nothingCanBeUndoneThen() {
    SchoolPlaces p = desk("1", "0,0f0l0:0");
    p.save();
    due(p.account(9), 2);
    due(p.restore(), 0);
    due(p.account(9), 0);
    dueState(p, p::undo);
    for (int i = 1; i <= 9; i++) p.setLimit(0, i);
    due(p.account(9), 8);
    p.restore();
    due(p.account(9), 0);
    dueState(p, p::undo);
    p.setLimit(0, 99);
    due(p.undo(), 0);
    due(p.school(0, 3), 50);
    dueState(p, p::undo);
  }

  @Edge(promise = 32, says = NOT_BACK)
  static void whatRestoreLeaves() {
    SchoolPlaces p = desk("0", "0,0f0l0:0");
    p.save();
    dueRefused(p, 0, 0, 0, 4);
    dueWrongText(p, "12", 2);
    feed(p, "1,2");
    p.restore();
    due(p.reason(), 4);
    due(p.errorPosition(), 2);
    due(p.account(10), 3);
    feed(p, "f3l4");
    due(p.readChild(), 1);
  }

  @Edge(promise = 32, says = "Throws IllegalStateException if nothing was saved")
  static void nothingWasSaved() {
    SchoolPlaces p = new SchoolPlaces();
    dueState(p, p::restore);
    p.addSchool(1, 1, 1, 1);
    dueState(p, p::restore);
    due(p.account(9), 1);
    due(p.save(), 0);
    due(p.restore(), 0);
    due(p.restore(), 0);
    // an empty desk is something that was saved
    SchoolPlaces q = new SchoolPlaces();
    q.save();
    q.addSchool(1, 1, 1, 1);
    due(q.restore(), 0);
    due(q.account(0), 0);
  }
}
