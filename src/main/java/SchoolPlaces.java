import java.util.NoSuchElementException;

/** A desk for places at schools. The numbered promises of ../shared/DOC.md say what each method does. */
public final class SchoolPlaces {
    private static final int NONE = -1;
    private static final int MAX_SCHOOLS = 6;
    private static final int MAX_CHILDREN = 24;
    private static final int MAX_FAMILIES = 12;
    private static final int MAX_CHOICES = 4;
    private static final int MAX_COORDINATE = 99;
    private static final int MAX_SEATS = 12;
    private static final int MAX_DISTANCE = 198;
    private static final int MAX_RULE = 1;
    private static final int MAX_PERCENT = 100;
    private static final int MAX_LOT = 999;
    private static final int MAX_ADDED = 3;
    private static final int FIRST_LIMIT = 50;
    private static final int LIMIT_STEP = 5;

    private static final int ENTRY_PARTS = 4;
    private static final int MAX_ENTRIES = 80;
    private static final int KIND_ALLOCATED = 0;
    private static final int KIND_FILLED = 1;
    private static final int KIND_APPEALED = 2;
    private static final int KIND_GIVEN_UP = 3;

    private static final int NOT_REFUSED = 0;
    private static final int REFUSED_NOT_PREFERRED = 1;
    private static final int REFUSED_REPEATED = 2;
    private static final int REFUSED_ADDED = 3;
    private static final int REFUSED_WEAK = 4;

    private static final int MAX_INPUT = 40;
    private static final int MAX_DIGITS = 3;
    private static final int MAX_UNDONE = 8;

    /** Far above the moves, asks and rounds that 24 children with 4 choices can need. */
    private static final int STEP_BOUND = 1000000;

    private final Desk desk;
    private final Desk saved;
    private final History history;
    private final Allocation allocation;
    private final ChildText text;
    private boolean hasSaved;
    private int lastReason;
    private int lastError;

    public SchoolPlaces() {
        desk = new Desk();
        saved = new Desk();
        history = new History();
        allocation = new Allocation();
        text = new ChildText();
        hasSaved = false;
        lastReason = NOT_REFUSED;
        lastError = NONE;
    }

    // ---- schools and families

    public int addSchool(int x, int y, int seats, int radius) throws IllegalArgumentException, IllegalStateException {
        checkRange(x, MAX_COORDINATE);
        checkRange(y, MAX_COORDINATE);
        checkRange(seats, MAX_SEATS);
        checkRange(radius, MAX_DISTANCE);
        if (desk.schoolCount >= MAX_SCHOOLS) {
            throw new IllegalStateException("there are 6 schools");
        }
        history.push(desk);
        int number = desk.schoolCount;
        desk.schools[number].begin(x, y, seats, radius);
        desk.schoolCount = number + 1;
        return number;
    }

    public int setSeats(int school, int seats) throws IndexOutOfBoundsException, IllegalArgumentException {
        checkSchool(school);
        checkRange(seats, MAX_SEATS);
        history.push(desk);
        desk.schools[school].seats = seats;
        return desk.fillSeats();
    }

    public int setRadius(int school, int radius) throws IndexOutOfBoundsException, IllegalArgumentException {
        checkSchool(school);
        checkRange(radius, MAX_DISTANCE);
        history.push(desk);
        int previous = desk.schools[school].radius;
        desk.schools[school].radius = radius;
        return previous;
    }

    public int setRule(int school, int rule) throws IndexOutOfBoundsException, IllegalArgumentException {
        checkSchool(school);
        checkRange(rule, MAX_RULE);
        history.push(desk);
        int previous = desk.schools[school].rule;
        desk.schools[school].rule = rule;
        return previous;
    }

    public int setLimit(int school, int limit) throws IndexOutOfBoundsException, IllegalArgumentException {
        checkSchool(school);
        checkRange(limit, MAX_PERCENT);
        history.push(desk);
        int previous = desk.schools[school].limit;
        desk.schools[school].limit = limit;
        return previous;
    }

    public boolean setPupils(int family, int school, boolean has) throws IndexOutOfBoundsException {
        if (family < 0 || family >= MAX_FAMILIES) {
            throw new IndexOutOfBoundsException("no such family");
        }
        checkSchool(school);
        history.push(desk);
        int before = desk.pupils[family];
        desk.pupils[family] = has ? before | (1 << school) : before & ~(1 << school);
        return contains(before, school);
    }

    public int school(int school, int what) throws IndexOutOfBoundsException, IllegalArgumentException {
        checkSchool(school);
        School row = desk.schools[school];
        switch (what) {
            case 0: return row.seats;
            case 1: return row.radius;
            case 2: return row.rule;
            case 3: return row.limit;
            case 4: return row.added;
            case 5: return desk.countHolders(school);
            case 6: return desk.freeSeats(school);
            case 7: return desk.countWaiters(school);
            case 8: return desk.countInCatchment(row);
            default: throw new IllegalArgumentException("what is out of range");
        }
    }

    public int held(int school, int index) throws IndexOutOfBoundsException, NoSuchElementException {
        checkSchool(school);
        return found(desk.rollChild(school, index, Roll.HOLDERS));
    }

    public int waiting(int school, int index) throws IndexOutOfBoundsException, NoSuchElementException {
        checkSchool(school);
        return found(desk.rollChild(school, index, Roll.WAITERS));
    }

    private static int found(int number) {
        if (number == NONE) {
            throw new NoSuchElementException("no such index");
        }
        return number;
    }

    // ---- children

    public int addChild(int x, int y, int family, int lot) throws IllegalArgumentException, IllegalStateException {
        checkRange(x, MAX_COORDINATE);
        checkRange(y, MAX_COORDINATE);
        checkRange(family, MAX_FAMILIES - 1);
        checkRange(lot, MAX_LOT);
        checkRoomForChild();
        history.push(desk);
        int number = desk.childCount;
        desk.children[number].begin(x, y, family, lot);
        desk.childCount = number + 1;
        return number;
    }

    public int readChild() throws IllegalArgumentException, IllegalStateException {
        boolean right = text.parse();
        text.length = 0;
        if (!right) {
            lastError = text.position;
            throw new IllegalArgumentException("the text has an error");
        }
        for (int i = 0; i < text.choiceCount; i++) {
            checkRange(text.choices[i], desk.schoolCount - 1);
        }
        int number = addChild(text.x, text.y, text.family, text.lot);
        for (int i = 0; i < text.choiceCount; i++) {
            desk.children[number].putChoice(text.choices[i], i);
        }
        return number;
    }

    public int choose(int child, int school, int place) throws IndexOutOfBoundsException, IllegalArgumentException, IllegalStateException {
        checkChild(child);
        checkSchool(school);
        Child row = desk.children[child];
        int others = row.placeOf(school) == NONE ? row.choiceCount : row.choiceCount - 1;
        checkRange(place, others);
        if (others >= MAX_CHOICES) {
            throw new IllegalStateException("there would be more than 4 choices");
        }
        history.push(desk);
        row.putChoice(school, place);
        return row.choiceCount;
    }

    public int setNeed(int child, int school) throws IndexOutOfBoundsException {
        checkChild(child);
        if (school != NONE) {
            checkSchool(school);
        }
        history.push(desk);
        int previous = desk.children[child].need;
        desk.children[child].need = school;
        return previous;
    }

    public int child(int child, int what) throws IndexOutOfBoundsException, IllegalArgumentException {
        checkChild(child);
        Child row = desk.children[child];
        switch (what) {
            case 0: return row.family;
            case 1: return row.lot;
            case 2: return row.need;
            case 3: return row.choiceCount;
            case 4: return row.seat;
            case 5: return row.placeOf(row.seat);
            case 6: return row.marks;
            case 7: return row.appeals;
            default: throw new IllegalArgumentException("what is out of range");
        }
    }

    public int choice(int child, int place) throws IndexOutOfBoundsException, NoSuchElementException {
        checkChild(child);
        Child row = desk.children[child];
        if (place < 0 || place >= row.choiceCount) {
            throw new NoSuchElementException("no such choice");
        }
        return row.choices[place];
    }

    public int rank(int child, int school, int what) throws IndexOutOfBoundsException, IllegalArgumentException {
        checkChild(child);
        checkSchool(school);
        Child row = desk.children[child];
        switch (what) {
            case 0: return desk.classOf(row, school, row.marks);
            case 1: return desk.schools[school].distanceTo(row);
            case 2: return desk.isSibling(row, school, row.marks) ? 1 : 0;
            case 3: return row.prefers(school) ? 1 : 0;
            case 4: return desk.rollBefore(child, school, Roll.HOLDERS);
            default: throw new IllegalArgumentException("what is out of range");
        }
    }

    public int why(int child, int school) throws IndexOutOfBoundsException {
        checkChild(child);
        checkSchool(school);
        Child row = desk.children[child];
        if (row.seat == school) {
            return 0;
        }
        if (row.placeOf(school) == NONE) {
            return 1;
        }
        if (!row.prefers(school)) {
            return 2;
        }
        if (desk.freeSeats(school) > 0) {
            return 3;
        }
        if (desk.holdsWorse(child, school)) {
            return 4;
        }
        return desk.holdsClass(school, desk.classOf(row, school, row.marks)) ? 5 : 6;
    }

    // ---- allocating

    public int allocate() {
        history.push(desk);
        int rounds = allocation.runRounds(desk, false);
        desk.take(allocation);
        return rounds;
    }

    public int again(int child) throws IndexOutOfBoundsException {
        checkChild(child);
        allocation.runRounds(desk, true);
        return allocation.seats[child];
    }

    public int unstable() {
        int pairs = 0;
        for (int school = 0; school < desk.schoolCount; school++) {
            boolean free = desk.freeSeats(school) > 0;
            for (int child = 0; child < desk.childCount; child++) {
                if (desk.children[child].prefers(school) && (free || desk.holdsWorse(child, school))) {
                    pairs++;
                }
            }
        }
        return pairs;
    }

    public int withdraw(int child) throws IndexOutOfBoundsException, UnsupportedOperationException {
        checkChild(child);
        Child row = desk.children[child];
        if (row.seat == NONE) {
            throw new UnsupportedOperationException("the child holds no seat");
        }
        history.push(desk);
        desk.moveChild(child, NONE, KIND_GIVEN_UP);
        row.choiceCount = 0;
        return desk.fillSeats();
    }

    public int appeal(int child, int school, int strength) throws IndexOutOfBoundsException, IllegalArgumentException, IllegalStateException {
        checkChild(child);
        checkSchool(school);
        checkRange(strength, MAX_PERCENT);
        int refusal = desk.refusalOf(child, school, strength);
        if (refusal != REFUSED_NOT_PREFERRED && refusal != REFUSED_REPEATED) {
            history.push(desk);
            desk.children[child].appeals |= 1 << school;
        }
        if (refusal != NOT_REFUSED) {
            lastReason = refusal;
            throw new IllegalStateException("the appeal is refused");
        }
        desk.schools[school].added++;
        desk.moveChild(child, school, KIND_APPEALED);
        return desk.fillSeats();
    }

    public int reason() throws NoSuchElementException {
        if (lastReason == NOT_REFUSED) {
            throw new NoSuchElementException("no appeal was refused");
        }
        return lastReason;
    }

    // ---- journal and accounts

    public int entry(int entry, int what) throws NoSuchElementException, IllegalArgumentException {
        if (entry < 0 || entry >= desk.journal.keptCount()) {
            throw new NoSuchElementException("no such entry is kept");
        }
        checkRange(what, ENTRY_PARTS - 1);
        return desk.journal.parts[entry * ENTRY_PARTS + what];
    }

    public int account(int what) throws IllegalArgumentException {
        switch (what) {
            case 0: return desk.schoolCount;
            case 1: return desk.childCount;
            case 2: return desk.sumSeats();
            case 3: return desk.sumAdded();
            case 4: return desk.countSeated();
            case 5: return desk.countAtFirstChoice();
            case 6: return desk.countLeftOut();
            case 7: return desk.sumDistances();
            case 8: return desk.journal.count;
            case 9: return history.count;
            case 10: return text.length;
            default: throw new IllegalArgumentException("what is out of range");
        }
    }

    public double meanDistance() throws ArithmeticException {
        int seated = desk.countSeated();
        if (seated == 0) {
            throw new ArithmeticException("no child holds a seat");
        }
        return (double) desk.sumDistances() / (double) seated;
    }

    // ---- the input, undo and the snapshot

    public int feed(char character) throws IllegalStateException {
        if (text.length >= MAX_INPUT) {
            throw new IllegalStateException("the input has 40 characters");
        }
        text.characters[text.length] = character;
        text.length++;
        return text.length;
    }

    public int errorPosition() throws NoSuchElementException {
        if (lastError == NONE) {
            throw new NoSuchElementException("no text had an error");
        }
        return lastError;
    }

    public int undo() throws IllegalStateException {
        if (history.count == 0) {
            throw new IllegalStateException("there is no change to undo");
        }
        history.pop(desk);
        return history.count;
    }

    public int save() {
        saved.copyFrom(desk);
        hasSaved = true;
        return desk.countSeated();
    }

    public int restore() throws IllegalStateException {
        if (!hasSaved) {
            throw new IllegalStateException("nothing was saved");
        }
        desk.copyFrom(saved);
        history.count = 0;
        return desk.countSeated();
    }

    // ---- checks of arguments

    private void checkSchool(int school) {
        if (school < 0 || school >= desk.schoolCount) {
            throw new IndexOutOfBoundsException("no such school");
        }
    }

    private void checkChild(int child) {
        if (child < 0 || child >= desk.childCount) {
            throw new IndexOutOfBoundsException("no such child");
        }
    }

    private void checkRoomForChild() {
        if (desk.childCount >= MAX_CHILDREN) {
            throw new IllegalStateException("there are 24 children");
        }
    }

    private static void checkRange(int value, int last) {
        if (value < 0 || value > last) {
            throw new IllegalArgumentException("a number is out of range");
        }
    }

    private static boolean contains(int set, int school) {
        return ((set >> school) & 1) == 1;
    }

    /** The two lists of children that a school has. */
    private enum Roll {
        HOLDERS, WAITERS
    }

    private static final class School {
        int x;
        int y;
        int seats;
        int radius;
        int rule;
        int limit;
        int added;

        void begin(int newX, int newY, int newSeats, int newRadius) {
            x = newX;
            y = newY;
            seats = newSeats;
            radius = newRadius;
            rule = 0;
            limit = FIRST_LIMIT;
            added = 0;
        }

        void copyFrom(School other) {
            x = other.x;
            y = other.y;
            seats = other.seats;
            radius = other.radius;
            rule = other.rule;
            limit = other.limit;
            added = other.added;
        }

        int distanceTo(Child other) {
            return Math.abs(x - other.x) + Math.abs(y - other.y);
        }
    }

    private static final class Child {
        final int[] choices;
        int choiceCount;
        int x;
        int y;
        int family;
        int lot;
        int need;
        int seat;
        int marks;
        int appeals;

        Child() {
            choices = new int[MAX_CHOICES];
            need = NONE;
            seat = NONE;
        }

        // Rows are used again after an undo, so a new child must not inherit anything.
        void begin(int newX, int newY, int newFamily, int newLot) {
            choiceCount = 0;
            x = newX;
            y = newY;
            family = newFamily;
            lot = newLot;
            need = NONE;
            seat = NONE;
            marks = 0;
            appeals = 0;
        }

        void copyFrom(Child other) {
            System.arraycopy(other.choices, 0, choices, 0, MAX_CHOICES);
            choiceCount = other.choiceCount;
            x = other.x;
            y = other.y;
            family = other.family;
            lot = other.lot;
            need = other.need;
            seat = other.seat;
            marks = other.marks;
            appeals = other.appeals;
        }

        /** Nothing, and so a seat at no school, has no place. */
        int placeOf(int wanted) {
            for (int i = 0; i < choiceCount; i++) {
                if (choices[i] == wanted) {
                    return i;
                }
            }
            return NONE;
        }

        boolean prefers(int wanted) {
            int place = placeOf(wanted);
            if (place == NONE) {
                return false;
            }
            int present = placeOf(seat);
            return present == NONE || place < present;
        }

        void putChoice(int wanted, int place) {
            int old = placeOf(wanted);
            if (old == NONE) {
                old = choiceCount;
                choiceCount++;
            }
            for (int i = old; i < choiceCount - 1; i++) {
                choices[i] = choices[i + 1];
            }
            for (int i = choiceCount - 1; i > place; i--) {
                choices[i] = choices[i - 1];
            }
            choices[place] = wanted;
        }
    }

    private static final class Journal {
        final int[] parts;
        int count;

        Journal() {
            parts = new int[MAX_ENTRIES * ENTRY_PARTS];
        }

        void copyFrom(Journal other) {
            count = other.count;
            System.arraycopy(other.parts, 0, parts, 0, keptCount() * ENTRY_PARTS);
        }

        int keptCount() {
            return Math.min(count, MAX_ENTRIES);
        }

        void note(int kind, int mover, int left, int got) {
            if (count < MAX_ENTRIES) {
                int start = count * ENTRY_PARTS;
                parts[start] = kind;
                parts[start + 1] = mover;
                parts[start + 2] = left;
                parts[start + 3] = got;
            }
            count++;
        }
    }

    /** All that undo and the snapshot bring back. */
    private static final class Desk {
        final School[] schools;
        final Child[] children;
        final int[] pupils;
        final Journal journal;
        int schoolCount;
        int childCount;

        Desk() {
            schools = new School[MAX_SCHOOLS];
            for (int i = 0; i < MAX_SCHOOLS; i++) {
                schools[i] = new School();
            }
            children = new Child[MAX_CHILDREN];
            for (int i = 0; i < MAX_CHILDREN; i++) {
                children[i] = new Child();
            }
            pupils = new int[MAX_FAMILIES];
            journal = new Journal();
        }

        void copyFrom(Desk other) {
            schoolCount = other.schoolCount;
            childCount = other.childCount;
            for (int i = 0; i < schoolCount; i++) {
                schools[i].copyFrom(other.schools[i]);
            }
            for (int i = 0; i < childCount; i++) {
                children[i].copyFrom(other.children[i]);
            }
            System.arraycopy(other.pupils, 0, pupils, 0, MAX_FAMILIES);
            journal.copyFrom(other.journal);
        }

        // ---- ranks

        boolean isSibling(Child row, int school, int marks) {
            return contains(pupils[row.family] | marks, school);
        }

        int classOf(Child row, int school, int marks) {
            if (row.need == school) {
                return 0;
            }
            boolean sibling = isSibling(row, school, marks);
            boolean near = schools[school].distanceTo(row) <= schools[school].radius;
            if (sibling && (near || schools[school].rule == 1)) {
                return 1;
            }
            if (near) {
                return 2;
            }
            return sibling ? 3 : 4;
        }

        /** A lower key is a better rank; no two children have the same key at a school. */
        int rankKey(int child, int school, int marks) {
            Child row = children[child];
            int key = classOf(row, school, marks);
            key = key * (MAX_DISTANCE + 1) + schools[school].distanceTo(row);
            key = key * (MAX_LOT + 1) + row.lot;
            return key * MAX_CHILDREN + child;
        }

        // ---- lists of a school

        boolean isOn(Child row, int school, Roll roll) {
            return roll == Roll.HOLDERS ? row.seat == school : row.prefers(school);
        }

        int countHolders(int school) {
            int count = 0;
            for (int i = 0; i < childCount; i++) {
                if (children[i].seat == school) {
                    count++;
                }
            }
            return count;
        }

        int countWaiters(int school) {
            int count = 0;
            for (int i = 0; i < childCount; i++) {
                if (children[i].prefers(school)) {
                    count++;
                }
            }
            return count;
        }

        /** The children on the list who have a better rank than the child, whether it is on it or not. */
        int rollBefore(int child, int school, Roll roll) {
            int key = rankKey(child, school, children[child].marks);
            int before = 0;
            for (int i = 0; i < childCount; i++) {
                if (isOn(children[i], school, roll) && rankKey(i, school, children[i].marks) < key) {
                    before++;
                }
            }
            return before;
        }

        int rollChild(int school, int index, Roll roll) {
            for (int i = 0; i < childCount; i++) {
                if (isOn(children[i], school, roll) && rollBefore(i, school, roll) == index) {
                    return i;
                }
            }
            return NONE;
        }

        int firstWaiting(int school) {
            int first = NONE;
            int firstKey = 0;
            for (int i = 0; i < childCount; i++) {
                if (children[i].prefers(school)) {
                    int key = rankKey(i, school, children[i].marks);
                    if (first == NONE || key < firstKey) {
                        first = i;
                        firstKey = key;
                    }
                }
            }
            return first;
        }

        int freeSeats(int school) {
            int all = schools[school].seats + schools[school].added;
            return Math.max(0, all - countHolders(school));
        }

        boolean holdsWorse(int child, int school) {
            int key = rankKey(child, school, children[child].marks);
            for (int i = 0; i < childCount; i++) {
                if (children[i].seat == school && rankKey(i, school, children[i].marks) > key) {
                    return true;
                }
            }
            return false;
        }

        boolean holdsClass(int school, int wanted) {
            for (int i = 0; i < childCount; i++) {
                Child row = children[i];
                if (row.seat == school && classOf(row, school, row.marks) == wanted) {
                    return true;
                }
            }
            return false;
        }

        // ---- moves

        void moveChild(int child, int to, int kind) {
            Child row = children[child];
            journal.note(kind, child, row.seat, to);
            row.seat = to;
        }

        /** Returns the number of seats that were got. */
        int fillSeats() {
            for (int moves = 0; moves < STEP_BOUND; moves++) {
                if (!fillOneSeat()) {
                    return moves;
                }
            }
            return STEP_BOUND;
        }

        boolean fillOneSeat() {
            for (int school = 0; school < schoolCount; school++) {
                int first = freeSeats(school) > 0 ? firstWaiting(school) : NONE;
                if (first != NONE) {
                    moveChild(first, school, KIND_FILLED);
                    return true;
                }
            }
            return false;
        }

        void take(Allocation result) {
            for (int i = 0; i < schoolCount; i++) {
                schools[i].added = 0;
            }
            for (int i = 0; i < childCount; i++) {
                children[i].appeals = 0;
                children[i].marks = result.marks[i];
                if (children[i].seat != result.seats[i]) {
                    moveChild(i, result.seats[i], KIND_ALLOCATED);
                }
            }
        }

        int refusalOf(int child, int school, int strength) {
            Child row = children[child];
            if (!row.prefers(school)) {
                return REFUSED_NOT_PREFERRED;
            }
            if (contains(row.appeals, school)) {
                return REFUSED_REPEATED;
            }
            if (schools[school].added >= MAX_ADDED) {
                return REFUSED_ADDED;
            }
            int before = rollBefore(child, school, Roll.WAITERS);
            return strength < schools[school].limit + LIMIT_STEP * before ? REFUSED_WEAK : NOT_REFUSED;
        }

        // ---- accounts

        int countInCatchment(School row) {
            int count = 0;
            for (int i = 0; i < childCount; i++) {
                if (row.distanceTo(children[i]) <= row.radius) {
                    count++;
                }
            }
            return count;
        }

        int sumSeats() {
            int sum = 0;
            for (int i = 0; i < schoolCount; i++) {
                sum += schools[i].seats;
            }
            return sum;
        }

        int sumAdded() {
            int sum = 0;
            for (int i = 0; i < schoolCount; i++) {
                sum += schools[i].added;
            }
            return sum;
        }

        int countSeated() {
            int count = 0;
            for (int i = 0; i < childCount; i++) {
                if (children[i].seat != NONE) {
                    count++;
                }
            }
            return count;
        }

        int countAtFirstChoice() {
            int count = 0;
            for (int i = 0; i < childCount; i++) {
                if (children[i].placeOf(children[i].seat) == 0) {
                    count++;
                }
            }
            return count;
        }

        int countLeftOut() {
            int count = 0;
            for (int i = 0; i < childCount; i++) {
                if (children[i].seat == NONE && children[i].choiceCount > 0) {
                    count++;
                }
            }
            return count;
        }

        int sumDistances() {
            int sum = 0;
            for (int i = 0; i < childCount; i++) {
                Child row = children[i];
                if (row.seat != NONE) {
                    sum += schools[row.seat].distanceTo(row);
                }
            }
            return sum;
        }
    }

    /** Rounds on rows of its own, so that the second way changes nothing on the desk. */
    private static final class Allocation {
        final int[] seats;
        final int[] marks;
        final int[] asked;
        final int[] keys;

        Allocation() {
            seats = new int[MAX_CHILDREN];
            marks = new int[MAX_CHILDREN];
            asked = new int[MAX_CHILDREN];
            keys = new int[MAX_CHILDREN * MAX_SCHOOLS];
        }

        int runRounds(Desk desk, boolean highestFirst) {
            for (int i = 0; i < MAX_CHILDREN; i++) {
                marks[i] = 0;
            }
            for (int rounds = 1; rounds < STEP_BOUND; rounds++) {
                beginRound(desk);
                runRound(desk, highestFirst);
                if (!markSiblings(desk)) {
                    return rounds;
                }
            }
            return STEP_BOUND;
        }

        void runRound(Desk desk, boolean highestFirst) {
            for (int step = 0; step < STEP_BOUND; step++) {
                int asker = nextAsker(desk, highestFirst);
                if (asker == NONE) {
                    return;
                }
                int wanted = desk.children[asker].choices[asked[asker]];
                asked[asker]++;
                askAt(desk, asker, wanted);
            }
        }

        // Ranks stand still during a round, so their keys are reckoned once.
        void beginRound(Desk desk) {
            for (int i = 0; i < desk.childCount; i++) {
                seats[i] = NONE;
                asked[i] = 0;
                for (int school = 0; school < desk.schoolCount; school++) {
                    keys[i * MAX_SCHOOLS + school] = desk.rankKey(i, school, marks[i]);
                }
            }
        }

        int nextAsker(Desk desk, boolean highestFirst) {
            int count = desk.childCount;
            for (int i = 0; i < count; i++) {
                int number = highestFirst ? count - 1 - i : i;
                if (seats[number] == NONE && asked[number] < desk.children[number].choiceCount) {
                    return number;
                }
            }
            return NONE;
        }

        void askAt(Desk desk, int asker, int school) {
            int holders = 0;
            int worst = NONE;
            for (int i = 0; i < desk.childCount; i++) {
                if (seats[i] == school) {
                    holders++;
                    if (worst == NONE || keyAt(i, school) > keyAt(worst, school)) {
                        worst = i;
                    }
                }
            }
            if (holders < desk.schools[school].seats) {
                seats[asker] = school;
            } else if (worst != NONE && keyAt(worst, school) > keyAt(asker, school)) {
                seats[worst] = NONE;
                seats[asker] = school;
            }
        }

        int keyAt(int child, int school) {
            return keys[child * MAX_SCHOOLS + school];
        }

        /** Returns whether a mark is new. */
        boolean markSiblings(Desk desk) {
            boolean fresh = false;
            for (int i = 0; i < desk.childCount; i++) {
                Child row = desk.children[i];
                for (int place = 0; place < row.choiceCount; place++) {
                    int school = row.choices[place];
                    if (!contains(marks[i], school) && familyHolds(desk, i, school)) {
                        marks[i] |= 1 << school;
                        fresh = true;
                    }
                }
            }
            return fresh;
        }

        boolean familyHolds(Desk desk, int child, int school) {
            int family = desk.children[child].family;
            for (int i = 0; i < desk.childCount; i++) {
                if (i != child && seats[i] == school && desk.children[i].family == family) {
                    return true;
                }
            }
            return false;
        }
    }

    /** The desks before the latest changes, as a ring. */
    private static final class History {
        final Desk[] desks;
        int next;
        int count;

        History() {
            desks = new Desk[MAX_UNDONE];
            for (int i = 0; i < MAX_UNDONE; i++) {
                desks[i] = new Desk();
            }
        }

        void push(Desk present) {
            desks[next].copyFrom(present);
            next = (next + 1) % MAX_UNDONE;
            count = Math.min(count + 1, MAX_UNDONE);
        }

        void pop(Desk present) {
            next = (next + MAX_UNDONE - 1) % MAX_UNDONE;
            count--;
            present.copyFrom(desks[next]);
        }
    }

    /** The input, and the child that was read from it last. */
    private static final class ChildText {
        final int[] characters;
        final int[] choices;
        int length;
        int position;
        int x;
        int y;
        int family;
        int lot;
        int choiceCount;

        ChildText() {
            characters = new int[MAX_INPUT];
            choices = new int[MAX_CHOICES];
        }

        /** Returns whether the text is right; if not, the position is that of the error. */
        boolean parse() {
            position = 0;
            choiceCount = 0;
            x = readNumber();
            if (x == NONE || !readSign(',')) {
                return false;
            }
            y = readNumber();
            if (y == NONE || !readSign('f')) {
                return false;
            }
            family = readNumber();
            if (family == NONE || !readSign('l')) {
                return false;
            }
            lot = readNumber();
            if (lot == NONE) {
                return false;
            }
            return position == length || readSign(':') && readChoices();
        }

        int readNumber() {
            int value = 0;
            for (int digits = 0; digits < MAX_DIGITS; digits++) {
                int digit = digitHere();
                if (digit == NONE) {
                    return digits == 0 ? NONE : value;
                }
                value = value * 10 + digit;
                position++;
            }
            return value;
        }

        int digitHere() {
            if (position >= length) {
                return NONE;
            }
            int sign = characters[position];
            return sign >= '0' && sign <= '9' ? sign - '0' : NONE;
        }

        boolean readSign(char wanted) {
            if (position >= length || characters[position] != wanted) {
                return false;
            }
            position++;
            return true;
        }

        boolean readChoices() {
            for (int i = 0; i < MAX_CHOICES; i++) {
                int digit = digitHere();
                if (digit == NONE || digit >= MAX_SCHOOLS || hasChoice(digit)) {
                    break;
                }
                choices[choiceCount] = digit;
                choiceCount++;
                position++;
            }
            return choiceCount > 0 && position == length;
        }

        boolean hasChoice(int wanted) {
            for (int i = 0; i < choiceCount; i++) {
                if (choices[i] == wanted) {
                    return true;
                }
            }
            return false;
        }
    }
}
