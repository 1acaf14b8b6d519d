/** A test for each sentence of promises 11 to 18, and of what they rest on, that names a boundary case. */
final class EdgesOfChildren extends Checks {
  private static final String ORDER = "The exceptions of a method are checked in the order in which they are listed.";
  private static final String NO_CHILD = "Throws IndexOutOfBoundsException if there is no such child";
  private static final String NO_CHILD_OR_SCHOOL = "Throws IndexOutOfBoundsException if there is no such child or school";
  private static final String TEXT_REFUSED =
      "Throws IllegalArgumentException if the text has an error, or a number is out of range, or there is no such school for a choice";

  private EdgesOfChildren() { }

  // ---- promise 11: addChild

  @Edge(promise = 11, says = "A place has two coordinates, x and y, from 0 to 99.")
  static void childPlaceEnds() {
    SchoolPlaces p = desk("1");
    due(p.addChild(0, 0, 0, 0), 0);
    due(p.addChild(99, 0, 0, 0), 1);
    due(p.addChild(0, 99, 0, 0), 2);
    due(p.addChild(99, 99, 0, 0), 3);
    int[] distances = {0, 99, 99, 198};
    for (int c = 0; c < 4; c++) due(p.rank(c, 0, 1), distances[c]);
    dueArgumentBeyond(p, 99, n -> p.addChild(n, 50, 1, 1));
    dueArgumentBeyond(p, 99, n -> p.addChild(50, n, 1, 1));
  }

  @Edge(promise = 11, says = "There are 12 families, numbered from 0.")
  static void childFamilyEnds() {
    SchoolPlaces p = desk("1");
    for (int f = 0; f < 12; f++) {
      due(p.addChild(1, 1, f, 1), f);
      due(p.child(f, 0), f);
    }
    dueArgumentBeyond(p, 11, n -> p.addChild(1, 1, n, 1));
  }

  @Edge(promise = 11, says = "A child has a place, a family, a lot from 0 to 999, a need, which is a school or none, at first none, and "
      + "choices: up to 4 different schools in the order of preference, at first none.")
  static void childLotEnds() {
    SchoolPlaces p = desk("1");
    due(p.addChild(1, 1, 1, 0), 0);
    due(p.addChild(1, 1, 1, 999), 1);
    due(p.child(0, 1), 0);
    due(p.child(1, 1), 999);
    dueArgumentBeyond(p, 999, n -> p.addChild(1, 1, 1, n));
  }

  @Edge(promise = 11, says = "A child has a place, a family, a lot from 0 to 999, a need, which is a school or none, at first none, and "
      + "choices: up to 4 different schools in the order of preference, at first none.")
  static void childBeginsAnew() {
    SchoolPlaces p = desk("11");
    p.save();
    for (int turn = 0; turn < 3; turn++) {
      due(p.addChild(1, 2, 3, 4), 0);
      int[] due = {3, 4, -1, 0, -1, -1, 0, 0};
      for (int what = 0; what < 8; what++) due(p.child(0, what), due[what]);
      dueNone(p, () -> p.choice(0, 0));
      p.choose(0, 1, 0);
      p.choose(0, 0, 0);
      p.setNeed(0, 1);
      read(p, "0,0f3l0:01");
      p.allocate();
      due(p.child(0, 6), 3);
      dueRefused(p, 0, 0, 0, 4);
      due(p.child(0, 7), 1);
      // the number is given again after an undo of all, and after a restore of no children
      for (int i = 0; i < 7 && turn == 0; i++) p.undo();
      if (turn == 1) p.restore();
    }
  }

  @Edge(promise = 11, says = "There are at most 24 children, numbered from 0.")
  static void childrenAreNumberedFromZero() {
    SchoolPlaces p = desk("1");
    for (int c = 0; c < 24; c++) {
      int next = c;
      dueThrow(IndexOutOfBoundsException.class, () -> p.child(next, 1));
      due(p.addChild(c, c, 0, c), c);
      due(p.child(c, 1), c);
    }
    due(p.account(1), 24);
    dueIndexBeyond(p, 23, n -> p.child(n, 0));
    dueState(p, () -> p.addChild(1, 1, 1, 1));
  }

  @Edge(promise = 11, says = "Throws IllegalArgumentException if a number is out of range")
  static void addChildOutOfRange() {
    SchoolPlaces p = desk("1");
    for (int i = 0; i < 4; i++) {
      int[] over = {99, 99, 11, 999};
      int[] under = {0, 0, 0, 0};
      over[i]++;
      under[i]--;
      dueArgument(p, () -> p.addChild(over[0], over[1], over[2], over[3]));
      dueArgument(p, () -> p.addChild(under[0], under[1], under[2], under[3]));
    }
    dueArgument(p, () -> p.addChild(LEAST, LEAST, LEAST, LEAST));
    dueArgument(p, () -> p.addChild(MOST, MOST, MOST, MOST));
    due(p.account(1), 0);
  }

  @Edge(promise = 11, says = "Throws IllegalStateException if there are 24 children")
  static void addChildTwentyFive() {
    SchoolPlaces p = desk("1");
    crowd(p, 23, "0");
    due(p.addChild(1, 1, 1, 1), 23);
    dueState(p, () -> p.addChild(1, 1, 1, 1));
    p.undo();
    due(p.addChild(2, 2, 2, 2), 23);
    dueState(p, () -> p.addChild(1, 1, 1, 1));
    due(p.child(23, 0), 2);
  }

  @Edge(promise = 11, says = ORDER)
  static void addChildOrder() {
    SchoolPlaces p = desk("1");
    crowd(p, 24, "0");
    dueArgument(p, () -> p.addChild(100, 0, 0, 0));
    dueArgument(p, () -> p.addChild(0, -1, 0, 0));
    dueArgument(p, () -> p.addChild(0, 0, 12, 0));
    dueArgument(p, () -> p.addChild(0, 0, 0, 1000));
  }

  // ---- promise 12: readChild

  @Edge(promise = 12, says = "Reads the input as a child and adds it.")
  static void readingIsOneChange() {
    SchoolPlaces p = desk("1111");
    due(read(p, "12,34f5l678:3120"), 0);
    due(p.account(9), 5);
    due(p.child(0, 0), 5);
    due(p.child(0, 1), 678);
    due(p.rank(0, 0, 1), 46);
    due(choices(p, 0), "3120");
    due(p.child(0, 2), -1);
    due(p.undo(), 4);
    due(p.account(1), 0);
    due(read(p, "1,2f3l4"), 0);
    due(choices(p, 0), "");
  }

  @Edge(promise = 12, says = "The input is empty afterwards, also if an exception is thrown.")
  static void inputIsEmptyAfterwards() {
    SchoolPlaces p = desk("1");
    String[] texts = {"0,0f0l0:0", "0,0f0l0", "", "x", "0,0f0l0:00", "100,0f0l0", "0,0f12l0", "0,0f0l0:1",
      "0000000000000000000000000000000000000000"};
    for (String text : texts) {
      feed(p, text);
      due(p.account(10), text.length());
      Calls.answer(p, "readChild");
      due(p.account(10), 0);
    }
    due(p.account(1), 2);
    crowd(p, 22, "0");
    feed(p, "0,0f0l0");
    dueThrow(IllegalStateException.class, p::readChild);
    due(p.account(10), 0);
    // nothing of an old text is left in a shorter one that follows
    due(p.feed('1'), 1);
    dueThrow(IllegalArgumentException.class, p::readChild);
    due(p.errorPosition(), 1);
  }

  @Edge(promise = 12, says = "The form of a child is: a number for x, a comma, a number for y, the letter f, a number for the family, "
      + "the letter l, a number for the lot, and perhaps a colon, followed by 1 to 4 digits for the choices.")
  static void formOfChild() {
    SchoolPlaces p = desk("111111");
    String[] right = {"0,0f0l0", "0,0f0l0:0", "0,0f0l0:10", "0,0f0l0:210", "0,0f0l0:3210", "99,99f11l999:5432"};
    for (int i = 0; i < right.length; i++) {
      due(read(p, right[i]), i);
      due(p.child(i, 3), right[i].indexOf(':') < 0 ? 0 : right[i].length() - right[i].indexOf(':') - 1);
    }
    dueWrongText(p, "0,0f0l0:", 8);
    dueWrongText(p, "0,0f0l0:01234", 12);
    String[] wrongOnes = {"0;0f0l0", "0,0F0l0", "0,0f0L0", "0,0f0l0;0", "0,0l0f0", ",0f0l0", "0,f0l0", "0,0fl0", "0,0f0l",
      "0,0f0l:0", " 0,0f0l0", "0,0f0l0 ", "+0,0f0l0", "-0,0f0l0"};
    int[] positions = {1, 3, 5, 7, 3, 0, 2, 4, 6, 6, 0, 7, 0, 0};
    for (int i = 0; i < wrongOnes.length; i++) dueWrongText(p, wrongOnes[i], positions[i]);
  }

  @Edge(promise = 12, says = "A number has 1 to 3 digits, zeros at the beginning allowed;")
  static void numbersOfText() {
    SchoolPlaces p = desk("1");
    due(read(p, "7,7f7l7"), 0);
    due(read(p, "07,07f07l07"), 1);
    due(read(p, "007,007f007l007"), 2);
    due(read(p, "000,000f000l000"), 3);
    due(read(p, "099,099f011l999"), 4);
    int[] distances = {14, 14, 14, 0, 198};
    int[] families = {7, 7, 7, 0, 11};
    int[] lots = {7, 7, 7, 0, 999};
    for (int c = 0; c < 5; c++) {
      due(p.rank(c, 0, 1), distances[c]);
      due(p.child(c, 0), families[c]);
      due(p.child(c, 1), lots[c]);
    }
    dueWrongText(p, "0007,7f7l7", 3);
    dueWrongText(p, "7,0007f7l7", 5);
    dueWrongText(p, "7,7f0007l7", 7);
    dueWrongText(p, "7,7f7l0007", 9);
    dueWrongText(p, ",7f7l7", 0);
    dueWrongText(p, "7,f7l7", 2);
    dueWrongText(p, "7,7fl7", 4);
    dueWrongText(p, "7,7f7l", 6);
    // the signs next to the digits
    dueWrongText(p, "/,7f7l7", 0);
    dueWrongText(p, "7,7f7l7:/", 8);
    dueWrongText(p, "7,7;f7l7", 3);
  }

  @Edge(promise = 12, says = "the digits of the choices are from 0 to 5, and none of them can stand twice.")
  static void choicesOfText() {
    SchoolPlaces p = desk("111111");
    for (int s = 0; s < 6; s++) {
      due(read(p, "0,0f0l0:" + s), s);
      due(choices(p, s), "" + s);
      dueWrongText(p, "0,0f0l0:" + s + s, 9);
      dueWrongText(p, "0,0f0l0:" + s + (s + 1) % 6 + s, 10);
      dueWrongText(p, "0,0f0l0:" + s + (s + 1) % 6 + (s + 2) % 6 + s, 11);
    }
    for (int digit = 6; digit < 10; digit++) {
      dueWrongText(p, "0,0f0l0:" + digit, 8);
      dueWrongText(p, "0,0f0l0:012" + digit, 11);
    }
  }

  @Edge(promise = 12, says = TEXT_REFUSED)
  static void textHasAnError() {
    SchoolPlaces p = desk("11");
    dueWrongText(p, "", 0);
    dueWrongText(p, "0,0f0l0:011", 10);
    due(p.account(1), 0);
    due(p.account(9), 2);
  }

  @Edge(promise = 12, says = TEXT_REFUSED)
  static void numberOfTextIsOutOfRange() {
    SchoolPlaces p = desk("11");
    for (String text : new String[] {"100,99f11l999", "99,100f11l999", "99,99f12l999", "999,0f0l0", "0,999f0l0", "0,0f999l0"}) {
      dueRefusedText(p, text, IllegalArgumentException.class);
    }
    due(read(p, "99,99f11l999"), 0);
  }

  @Edge(promise = 12, says = TEXT_REFUSED)
  static void schoolOfTextDoesNotExist() {
    SchoolPlaces p = new SchoolPlaces();
    for (int schools = 0; schools < 6; schools++) {
      dueRefusedText(p, "0,0f0l0:" + schools, IllegalArgumentException.class);
      if (schools > 0) dueRefusedText(p, "0,0f0l0:0" + schools, IllegalArgumentException.class);
      p.addSchool(0, 0, 0, 0);
      due(read(p, "0,0f0l0:" + schools), schools);
    }
    p.undo();
    p.undo();
    dueRefusedText(p, "0,0f0l0:5", IllegalArgumentException.class);
  }

  @Edge(promise = 12, says = "Throws IllegalStateException if there are 24 children")
  static void readChildTwentyFive() {
    SchoolPlaces p = desk("1");
    crowd(p, 23, "0");
    due(read(p, "1,1f1l1:0"), 23);
    dueRefusedText(p, "1,1f1l1:0", IllegalStateException.class);
    dueRefusedText(p, "1,1f1l1", IllegalStateException.class);
    p.undo();
    due(read(p, "1,1f2l1"), 23);
    dueRefusedText(p, "1,1f1l1", IllegalStateException.class);
  }

  @Edge(promise = 12, says = ORDER)
  static void readChildOrder() {
    SchoolPlaces p = desk("1");
    crowd(p, 24, "0");
    dueWrongText(p, "1,1f1l1:", 8);
    dueRefusedText(p, "100,1f1l1", IllegalArgumentException.class);
    dueRefusedText(p, "1,100f1l1", IllegalArgumentException.class);
    dueRefusedText(p, "1,1f12l1", IllegalArgumentException.class);
    dueRefusedText(p, "1,1f1l1:1", IllegalArgumentException.class);
  }

  // ---- promise 13: choose

  @Edge(promise = 13, says = "Sets a choice of a child: the school gets a given place among the choices, in front of the one that has it, "
      + "if there is one;")
  static void choiceGetsItsPlace() {
    for (int place = 0; place <= 3; place++) {
      SchoolPlaces p = desk("11111", "0,0f0l0:012", "0,0f0l0:34");
      due(p.choose(0, 4, place), 4);
      due(choices(p, 0), new String[] {"4012", "0412", "0142", "0124"}[place]);
      due(choices(p, 1), "34");
    }
    SchoolPlaces q = desk("1", "0,0f0l0");
    due(q.choose(0, 0, 0), 1);
    due(choices(q, 0), "0");
  }

  @Edge(promise = 13, says = "if it was among them already, it is removed from there first.")
  static void choiceIsMoved() {
    for (int from = 0; from < 4; from++) {
      for (int to = 0; to < 4; to++) {
        SchoolPlaces p = desk("1111", "0,0f0l0:0123");
        due(p.choose(0, from, to), 4);
        due(choices(p, 0), new StringBuilder("0123").deleteCharAt(from).insert(to, from).toString());
      }
    }
    SchoolPlaces q = desk("1", "0,0f0l0:0");
    due(q.choose(0, 0, 0), 1);
    due(choices(q, 0), "0");
  }

  @Edge(promise = 13, says = "place: the place, from 0, at most the number of the other choices")
  static void placesOfChoices() {
    SchoolPlaces p = desk("111111", "0,0f0l0");
    for (int count = 0; count < 4; count++) {
      int school = count;
      dueArgumentBeyond(p, count, n -> p.choose(0, school, n));
      due(p.choose(0, school, count), count + 1);
      // the place behind the last is none for a school that is among the choices already
      dueArgumentBeyond(p, count, n -> p.choose(0, school, n));
      due(p.choose(0, school, count), count + 1);
    }
    due(choices(p, 0), "0123");
  }

  @Edge(promise = 13, says = NO_CHILD_OR_SCHOOL)
  static void chooseForNone() {
    SchoolPlaces p = desk("11", "0,0f0l0", "0,0f0l0");
    dueIndexBeyond(p, 1, n -> p.choose(n, 0, 0));
    dueIndexBeyond(p, 1, n -> p.choose(0, n, 0));
    dueIndex(p, () -> p.choose(2, 2, 0));
  }

  @Edge(promise = 13, says = "Throws IllegalArgumentException if the place is out of range")
  static void choosePlaceOutOfRange() {
    SchoolPlaces p = desk("11111", "0,0f0l0", "0,0f0l0:0123");
    dueArgumentBeyond(p, 0, n -> p.choose(0, 4, n));
    dueArgumentBeyond(p, 3, n -> p.choose(1, 3, n));
    dueArgumentBeyond(p, 4, n -> p.choose(1, 4, n));
  }

  @Edge(promise = 13, says = "Throws IllegalStateException if there would be more than 4 choices")
  static void chooseFifth() {
    SchoolPlaces p = desk("111111", "0,0f0l0:012");
    due(p.choose(0, 3, 0), 4);
    for (int place = 0; place <= 4; place++) {
      int at = place;
      dueState(p, () -> p.choose(0, 4, at));
      dueState(p, () -> p.choose(0, 5, at));
    }
    due(choices(p, 0), "3012");
    due(p.choose(0, 3, 3), 4);
    due(choices(p, 0), "0123");
  }

  @Edge(promise = 13, says = ORDER)
  static void chooseOrder() {
    SchoolPlaces p = desk("11111", "0,0f0l0:0123");
    dueIndex(p, () -> p.choose(1, 4, 5));
    dueIndex(p, () -> p.choose(0, 5, -1));
    dueIndex(p, () -> p.choose(-1, 0, 4));
    dueArgument(p, () -> p.choose(0, 4, 5));
    dueArgument(p, () -> p.choose(0, 4, -1));
  }

  @Edge(promise = 13, says = "Other calls that change preferences or ranks fill no seats.")
  static void otherCallsFillNoSeats() {
    SchoolPlaces p = desk("1", "0,0f0l0:0", "1,0f1l0");
    p.addSchool(0, 0, 1, 0);
    p.addChild(2, 0, 2, 0);
    due(read(p, "3,0f3l0:01"), 3);
    p.choose(1, 0, 0);
    p.choose(3, 1, 0);
    p.setNeed(0, 1);
    p.setNeed(0, 0);
    p.setPupils(0, 0, true);
    p.setRadius(0, 0);
    p.setRadius(1, 198);
    p.setRule(0, 1);
    p.setLimit(0, 0);
    p.undo();
    p.save();
    p.restore();
    p.again(0);
    due(seats(p), "-1 -1 -1 -1");
    due(p.account(8), 0);
    due(p.school(0, 6), 1);
    due(p.setSeats(1, 1), 2);
    due(seats(p), "0 -1 -1 1");
  }

  // ---- promise 14: setNeed

  @Edge(promise = 14, says = "school: the school, or -1 for none")
  static void needOrNone() {
    SchoolPlaces p = desk("111111", "0,0f0l0:0");
    for (int s = -1; s < 6; s++) {
      p.setNeed(0, s);
      due(p.child(0, 2), s);
      for (int other = 0; other < 6; other++) due(p.rank(0, other, 0), other == s ? 0 : 2);
    }
    p.setNeed(0, -1);
    due(p.child(0, 2), -1);
    due(p.rank(0, 5, 0), 2);
    // none is none also where there are no schools
    SchoolPlaces q = new SchoolPlaces();
    q.addChild(0, 0, 0, 0);
    due(q.setNeed(0, -1), -1);
    dueIndex(q, () -> q.setNeed(0, 0));
  }

  @Edge(promise = 14, says = "Returns the previous need, or -1.")
  static void previousNeed() {
    SchoolPlaces p = desk("11", "0,0f0l0");
    due(p.setNeed(0, 0), -1);
    due(p.setNeed(0, 1), 0);
    due(p.setNeed(0, 1), 1);
    due(p.setNeed(0, -1), 1);
    due(p.setNeed(0, -1), -1);
  }

  @Edge(promise = 14, says = NO_CHILD_OR_SCHOOL)
  static void needOfNone() {
    SchoolPlaces p = desk("11", "0,0f0l0", "0,0f0l0");
    dueIndexBeyond(p, 1, n -> p.setNeed(n, 0));
    dueIndexBeyond(p, 1, n -> p.setNeed(n, -1));
    for (int n : beyond(1)) {
      if (n != -1) dueIndex(p, () -> p.setNeed(0, n));
    }
    dueIndex(p, () -> p.setNeed(0, -2));
  }

  // ---- promise 15: child

  @Edge(promise = 15, says = "2 for its need, -1 without one")
  static void needOfChild() {
    SchoolPlaces p = desk("111111", "0,0f0l0");
    due(p.child(0, 2), -1);
    p.setNeed(0, 0);
    due(p.child(0, 2), 0);
    p.setNeed(0, 5);
    due(p.child(0, 2), 5);
  }

  @Edge(promise = 15, says = "3 for the number of its choices")
  static void numberOfChoices() {
    SchoolPlaces p = desk("1111", "0,0f0l0");
    for (int s = 0; s < 4; s++) {
      due(p.child(0, 3), s);
      p.choose(0, s, 0);
    }
    due(p.child(0, 3), 4);
    p.allocate();
    p.withdraw(0);
    due(p.child(0, 3), 0);
  }

  @Edge(promise = 15, says = "A child holds a seat at a school or nowhere.")
  static void seatOrNone() {
    SchoolPlaces p = desk("11", "0,0f0l0:0", "0,0f1l0:01", "0,0f2l0:01", "0,0f3l0");
    for (int c = 0; c < 4; c++) due(p.child(c, 4), -1);
    p.allocate();
    due(p.child(0, 4), 0);
    due(p.child(1, 4), 1);
    due(p.child(2, 4), -1);
    due(p.child(3, 4), -1);
    due(p.school(0, 5) + p.school(1, 5), p.account(4));
  }

  @Edge(promise = 15, says = "5 for the place of this school among its choices, from 0, -1 without a seat or if it is not among them")
  static void placeOfTheSeat() {
    SchoolPlaces p = desk("0001", "0,0f0l0:012", "0,0f1l0:0", "0,0f2l0");
    p.choose(0, 3, 3);
    p.allocate();
    due(p.child(0, 5), 3);
    due(p.child(1, 5), -1);
    due(p.child(2, 5), -1);
    for (int place = 3; place >= 0; place--) {
      p.choose(0, 3, place);
      due(p.child(0, 5), place);
    }
    p.withdraw(0);
    due(p.child(0, 5), -1);
  }

  @Edge(promise = 15, says = "6 for the set of schools for which it is marked, as bits")
  static void marksAsBits() {
    SchoolPlaces p = desk("111111", "9,0f0l0:0123", "0,0f0l0:0", "0,0f0l0:5", "9,9f0l0:541");
    p.setNeed(1, 0);
    p.setNeed(2, 5);
    due(p.child(0, 6), 0);
    p.allocate();
    due(seats(p), "1 0 5 4");
    // child 0 is marked for 0 alone: at 1 it is the only one of its family, and 5 and 4 are no choices of it
    due(p.child(0, 6), 1);
    due(p.child(1, 6), 0);
    due(p.child(2, 6), 0);
    due(p.child(3, 6), 1 << 5 | 1 << 1);
  }

  @Edge(promise = 15, says = "Marks are made by rounds only.")
  static void noMarksByOtherMoves() {
    SchoolPlaces p = desk("00", "0,0f0l0:01", "1,0f0l0:01", "2,0f0l0:01");
    due(p.setSeats(0, 1), 1);
    due(p.appeal(1, 0, 50), 0);
    p.setPupils(0, 0, true);
    p.again(0);
    due(seats(p), "0 0 -1");
    for (int c = 0; c < 3; c++) due(p.child(c, 6), 0);
    due(p.rank(2, 0, 2), 1);
    p.setPupils(0, 0, false);
    due(p.rank(2, 0, 2), 0);
    p.withdraw(0);
    for (int c = 0; c < 3; c++) due(p.child(c, 6), 0);
    p.setNeed(1, 0);
    p.allocate();
    due(p.child(1, 6), 0);
    due(p.child(2, 6), 1);
  }

  @Edge(promise = 15, says = "Refused appeals for the reason 3 or 4 belong to the set of schools for which a child has appealed.")
  static void refusedAppealsBelongToTheSet() {
    SchoolPlaces p = desk("000000", "9,0f0l0:0145", "0,0f1l0:0", "1,0f1l0:0", "2,0f1l0:0");
    for (int i = 1; i < 4; i++) p.appeal(i, 0, 50);
    due(p.child(0, 7), 0);
    dueRefused(p, 0, 0, 100, 3);
    due(p.child(0, 7), 1);
    dueRefused(p, 0, 1, 49, 4);
    due(p.child(0, 7), 3);
    dueRefused(p, 0, 2, 100, 1);
    dueRefused(p, 0, 0, 100, 2);
    due(p.child(0, 7), 3);
    due(p.appeal(0, 4, 50), 0);
    due(p.child(0, 7), 1 | 2 | 16);
    due(p.child(0, 4), 4);
    due(p.child(1, 7), 1);
    p.allocate();
    for (int c = 0; c < 4; c++) due(p.child(c, 7), 0);
  }

  @Edge(promise = 15, says = NO_CHILD)
  static void numbersOfNoChild() {
    SchoolPlaces p = desk("1", "0,0f0l0:0", "0,0f0l0");
    for (int what = 0; what <= 7; what++) {
      int asked = what;
      dueIndexBeyond(p, 1, n -> p.child(n, asked));
    }
  }

  @Edge(promise = 15, says = "Throws IllegalArgumentException if what is out of range")
  static void noSuchNumberOfChild() {
    SchoolPlaces p = desk("1", "0,0f0l0:0");
    dueArgumentBeyond(p, 7, n -> p.child(0, n));
  }

  @Edge(promise = 15, says = ORDER)
  static void childOrder() {
    SchoolPlaces p = desk("1", "0,0f0l0:0");
    dueIndex(p, () -> p.child(1, 8));
    dueIndex(p, () -> p.child(-1, -1));
  }

  // ---- promise 16: choice

  @Edge(promise = 16, says = "place: the place, from 0")
  static void choicesFromFirstToLast() {
    SchoolPlaces p = desk("111111", "0,0f0l0:5340");
    int[] due = {5, 3, 4, 0};
    for (int place = 0; place < 4; place++) due(p.choice(0, place), due[place]);
  }

  @Edge(promise = 16, says = NO_CHILD)
  static void choiceOfNoChild() {
    SchoolPlaces p = desk("1", "0,0f0l0:0", "0,0f0l0:0");
    dueIndexBeyond(p, 1, n -> p.choice(n, 0));
  }

  @Edge(promise = 16, says = "Throws NoSuchElementException if it has no such choice")
  static void noSuchChoice() {
    SchoolPlaces p = desk("1111", "0,0f0l0", "0,0f0l0:0", "0,0f0l0:0123");
    dueNoneBeyond(p, -1, n -> p.choice(0, n));
    dueNoneBeyond(p, 0, n -> p.choice(1, n));
    dueNoneBeyond(p, 3, n -> p.choice(2, n));
    // places that were taken before a withdrawal are no places any more
    p.allocate();
    p.withdraw(2);
    dueNone(p, () -> p.choice(2, 0));
  }

  @Edge(promise = 16, says = ORDER)
  static void choiceOrder() {
    SchoolPlaces p = desk("1", "0,0f0l0:0");
    dueIndex(p, () -> p.choice(1, 1));
    dueIndex(p, () -> p.choice(-1, -1));
  }

  // ---- promise 17: rank

  @Edge(promise = 17, says = "Returns a number of a child at a school, whether it is among its choices or not.")
  static void rankWithoutChoice() {
    SchoolPlaces p = desk("12", "3,0f0l0:1", "4,0f1l0:1", "5,0f2l0:0");
    p.allocate();
    p.setPupils(1, 0, true);
    for (int c = 0; c < 2; c++) {
      due(p.rank(c, 0, 0), c == 0 ? 2 : 1);
      due(p.rank(c, 0, 1), 3 + c);
      due(p.rank(c, 0, 2), c);
      due(p.rank(c, 0, 3), 0);
      due(p.rank(c, 0, 4), 0);
    }
    due(p.rank(2, 1, 4), 2);
  }

  @Edge(promise = 17, says = "The class of a child at a school is 0 if the school is its need.")
  static void classOfNeed() {
    SchoolPlaces p = desk("11");
    int[][] places = {{20, 0}, {21, 0}, {99, 99}};
    for (int[] place : places) {
      int child = p.addChild(place[0], place[1], 0, 0);
      p.setNeed(child, 0);
      for (int rule = 0; rule <= 1; rule++) {
        p.setRule(0, rule);
        p.setPupils(0, 0, true);
        due(p.rank(child, 0, 0), 0);
        p.setPupils(0, 0, false);
        due(p.rank(child, 0, 0), 0);
        due(p.rank(child, 1, 0), place[0] == 20 ? 2 : 4);
      }
    }
  }

  @Edge(promise = 17, says = "Otherwise, with the rule 0, it is 1 for a sibling in the catchment, 2 for another child in the catchment, 3 for "
      + "a sibling who is not in the catchment, and 4 for all others;")
  static void classesOfRuleNone() { classes(0, new int[] {1, 2, 3, 4}); }

  @Edge(promise = 17, says = "with the rule 1, it is 1 for a sibling, 2 for another child in the catchment, and 4 for all others.")
  static void classesOfRuleOne() { classes(1, new int[] {1, 2, 1, 4}); }

  /** The classes of a sibling and of another child, both as far away as the radius, and one step further. */
  private static void classes(int rule, int[] due) {
    SchoolPlaces p = desk("1");
    p.setRule(0, rule);
    p.setPupils(1, 0, true);
    p.addChild(10, 10, 1, 0);
    p.addChild(10, 10, 2, 0);
    p.addChild(10, 11, 1, 0);
    p.addChild(10, 11, 2, 0);
    for (int c = 0; c < 4; c++) due(p.rank(c, 0, 0), due[c]);
  }

  @Edge(promise = 17, says = "The distance of two places is the sum of the differences of both coordinates, without their signs.")
  static void distances() {
    SchoolPlaces p = new SchoolPlaces();
    p.addSchool(50, 50, 1, 0);
    p.addSchool(0, 0, 1, 0);
    p.addSchool(99, 99, 1, 0);
    int[][] places = {{50, 50}, {49, 50}, {51, 50}, {50, 49}, {50, 51}, {40, 70}, {60, 30}, {0, 0}, {99, 99}, {0, 99}, {99, 0}};
    int[] due = {0, 1, 1, 1, 1, 30, 30, 100, 98, 99, 99};
    for (int i = 0; i < places.length; i++) {
      int x = places[i][0];
      int y = places[i][1];
      p.addChild(x, y, 0, 0);
      due(p.rank(i, 0, 1), due[i]);
      due(p.rank(i, 1, 1), x + y);
      due(p.rank(i, 2, 1), 198 - x - y);
    }
  }

  @Edge(promise = 17, says = "A child is a sibling at a school if its family has pupils there, or if it is marked for this school.")
  static void siblings() {
    SchoolPlaces p = desk("2111", "0,0f0l0:0", "1,0f0l0:0", "2,0f1l0:1");
    for (int c = 0; c < 3; c++) {
      for (int s = 0; s < 4; s++) due(p.rank(c, s, 2), 0);
    }
    p.allocate();
    due(p.rank(0, 0, 2), 1);
    due(p.rank(1, 0, 2), 1);
    due(p.rank(2, 0, 2), 0);
    due(p.rank(2, 1, 2), 0);
    due(p.rank(0, 1, 2), 0);
    // marked, and with pupils, and both
    p.setPupils(0, 0, true);
    p.setPupils(0, 3, true);
    due(p.rank(0, 0, 2), 1);
    due(p.rank(1, 3, 2), 1);
    due(p.rank(2, 3, 2), 0);
    p.setPupils(0, 0, false);
    due(p.rank(0, 0, 2), 1);
    p.setPupils(0, 3, false);
    due(p.rank(0, 3, 2), 0);
  }

  @Edge(promise = 17, says = "A child prefers a school if it is among its choices, and it holds no seat, or one at a school that comes later "
      + "among its choices or is not among them.")
  static void preferences() {
    SchoolPlaces p = desk("00100", "0,0f0l0:0123");
    int[] without = {1, 1, 1, 1, 0};
    for (int s = 0; s < 5; s++) due(p.rank(0, s, 3), without[s]);
    p.allocate();
    due(p.child(0, 4), 2);
    int[] with = {1, 1, 0, 0, 0};
    for (int s = 0; s < 5; s++) due(p.rank(0, s, 3), with[s]);
    p.choose(0, 3, 2);
    due(p.rank(0, 3, 3), 1);
    p.choose(0, 2, 0);
    for (int s = 0; s < 5; s++) due(p.rank(0, s, 3), 0);
    p.withdraw(0);
    for (int s = 0; s < 5; s++) due(p.rank(0, s, 3), 0);
  }

  @Edge(promise = 17, says = "4 for the number of children that hold seats there and have a better rank")
  static void betterHolders() {
    SchoolPlaces p = desk("b", "9,0f11l9:0");
    crowd(p, 11, "0");
    due(p.rank(0, 0, 4), 0);
    p.allocate();
    // children 1 to 10 stand at the distances 0 to 9; child 10 comes before child 0 by its lot; child 11 gets no seat
    for (int c = 1; c <= 10; c++) due(p.rank(c, 0, 4), c - 1);
    due(p.rank(0, 0, 4), 10);
    due(p.rank(11, 0, 4), 11);
    p.setNeed(11, 0);
    due(p.rank(11, 0, 4), 0);
    p.setNeed(0, 0);
    due(p.rank(11, 0, 4), 1);
    due(p.rank(0, 0, 4), 0);
  }

  @Edge(promise = 17, says = NO_CHILD_OR_SCHOOL)
  static void rankOfNone() {
    SchoolPlaces p = desk("11", "0,0f0l0:0", "0,0f0l0");
    for (int what = 0; what <= 4; what++) {
      int asked = what;
      dueIndexBeyond(p, 1, n -> p.rank(n, 0, asked));
      dueIndexBeyond(p, 1, n -> p.rank(0, n, asked));
    }
  }

  @Edge(promise = 17, says = "Throws IllegalArgumentException if what is out of range")
  static void noSuchNumberOfRank() {
    SchoolPlaces p = desk("1", "0,0f0l0:0");
    dueArgumentBeyond(p, 4, n -> p.rank(0, 0, n));
  }

  @Edge(promise = 17, says = ORDER)
  static void rankOrder() {
    SchoolPlaces p = desk("1", "0,0f0l0:0");
    dueIndex(p, () -> p.rank(1, 0, 5));
    dueIndex(p, () -> p.rank(0, 1, -1));
  }

  // ---- promise 18: why

  @Edge(promise = 18, says = "Returns 0 if it holds one;")
  static void whyNothing() {
    SchoolPlaces p = desk("02", "0,0f0l0:01");
    p.allocate();
    due(p.why(0, 1), 0);
    // also with a free seat there, and where it comes last among the choices
    due(p.school(1, 6), 1);
    due(p.child(0, 5), 1);
  }

  @Edge(promise = 18, says = "otherwise the first that applies: 1 the school is not among its choices;")
  static void whyNoChoice() {
    SchoolPlaces p = desk("12", "0,0f0l0:0", "0,0f1l0");
    p.allocate();
    // the first one applies also with a free seat, with a seat at a choice, and with a child of a worse rank there
    due(p.why(0, 1), 1);
    due(p.why(1, 1), 1);
    p.setNeed(1, 0);
    due(p.why(1, 0), 1);
  }

  @Edge(promise = 18, says = "2 it holds a seat at a school that comes earlier among its choices;")
  static void whyEarlierChoice() {
    SchoolPlaces p = desk("0111", "0,0f0l0:0123", "9,0f1l0:2");
    p.allocate();
    due(seats(p), "1 2");
    due(p.why(0, 2), 2);
    due(p.why(0, 3), 2);
    due(p.school(3, 6), 1);
    due(p.why(0, 0), 6);
    p.choose(0, 2, 0);
    due(p.why(0, 2), 4);
  }

  @Edge(promise = 18, says = "3 there is a free seat;")
  static void whyFreeSeat() {
    SchoolPlaces p = desk("2", "5,0f0l0:0");
    due(p.why(0, 0), 3);
    p.allocate();
    read(p, "0,0f1l0:0");
    // a free seat comes before a child with a worse rank
    due(p.why(1, 0), 3);
    due(p.setSeats(0, 1), 0);
    due(p.why(1, 0), 4);
    // an added seat is a free seat, too
    SchoolPlaces q = desk("0", "0,0f0l0:0");
    q.appeal(0, 0, 100);
    q.withdraw(0);
    read(q, "0,0f1l0:0");
    due(q.why(1, 0), 3);
  }

  @Edge(promise = 18, says = "4 a child of its class, or of a higher one, holds a seat there, and has a worse rank;")
  static void whyWorseRank() {
    SchoolPlaces p = desk("1", "5,5f0l5:0");
    p.allocate();
    // nearer; a lower lot; a lower class; and on the other side the same rank but for the number
    read(p, "5,4f1l9:0");
    read(p, "5,5f1l4:0");
    read(p, "21,0f1l0:0");
    read(p, "5,5f1l5:0");
    due(p.why(1, 0), 4);
    due(p.why(2, 0), 4);
    due(p.why(3, 0), 6);
    p.setNeed(3, 0);
    due(p.why(3, 0), 4);
    due(p.why(4, 0), 5);
    // the child with the worse rank need not be the only one
    SchoolPlaces q = desk("2", "0,0f0l0:0", "9,0f1l0:0");
    q.allocate();
    read(q, "5,0f2l0:0");
    due(q.why(2, 0), 4);
  }

  @Edge(promise = 18, says = "A higher class has a greater number.")
  static void whyHigherClass() {
    // the one that holds the seat has class 2 or 4; the one that asks has 1 and 3, and has a better or a worse rank
    SchoolPlaces p = desk("1", "20,0f0l0:0");
    p.allocate();
    read(p, "20,0f1l999:0");
    due(p.why(1, 0), 5);
    p.setPupils(1, 0, true);
    due(p.why(1, 0), 4);
    p.setRadius(0, 19);
    due(p.rank(0, 0, 0), 4);
    due(p.rank(1, 0, 0), 3);
    due(p.why(1, 0), 4);
    p.setPupils(0, 0, true);
    due(p.why(1, 0), 5);
    p.setPupils(1, 0, false);
    due(p.why(1, 0), 6);
  }

  @Edge(promise = 18, says = "5 all that hold seats there have better ranks, one of them the same class;")
  static void whySameClass() {
    SchoolPlaces p = desk("2", "0,0f0l0:0", "1,0f1l0:0", "2,0f2l0:0");
    p.allocate();
    p.setNeed(0, 0);
    due(p.why(2, 0), 5);
    p.setNeed(1, 0);
    due(p.why(2, 0), 6);
    p.setNeed(2, 0);
    due(p.why(2, 0), 5);
  }

  @Edge(promise = 18, says = "6 all have lower classes, or nobody holds a seat there.")
  static void whyLowerClasses() {
    SchoolPlaces p = desk("10", "5,0f0l0:0", "0,0f1l0:01");
    p.setNeed(0, 0);
    p.allocate();
    due(p.why(1, 0), 6);
    due(p.why(1, 1), 6);
    p.setSeats(1, 1);
    due(p.why(1, 1), 0);
    p.setSeats(1, 0);
    due(p.why(1, 1), 0);
  }

  @Edge(promise = 18, says = NO_CHILD_OR_SCHOOL)
  static void whyOfNone() {
    SchoolPlaces p = desk("11", "0,0f0l0:0", "0,0f0l0");
    dueIndexBeyond(p, 1, n -> p.why(n, 0));
    dueIndexBeyond(p, 1, n -> p.why(0, n));
    dueIndex(p, () -> p.why(2, 2));
  }
}
