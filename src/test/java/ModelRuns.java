import java.util.ArrayList;
import java.util.Arrays;
import java.util.List;
import java.util.Random;

/** Long runs of mixed calls, the same ones on the program and on the PlainModel; all answers have to agree. */
public final class ModelRuns {
  private static final int CALLS = 400;
  private static final int RUNS = 250;
  private static final int LOOK_EVERY = 10;

  private final Random random;
  private final SchoolPlaces program = new SchoolPlaces();
  private final PlainModel model = new PlainModel();
  private final List<String> told = new ArrayList<>();
  private boolean agree = true;
  private int small;

  private ModelRuns(long seed) { random = new Random(seed); }

  public static void main(String[] args) {
    int wrong = 0;
    for (int seed = 1; seed <= RUNS && wrong < 3; seed++) {
      ModelRuns run = new ModelRuns(seed);
      run.go();
      if (!run.agree) { wrong++; System.out.println("seed " + seed + ":\n" + String.join("\n", run.told)); }
    }
    System.out.println(wrong == 0 ? "ModelRuns: all answers agree" : "ModelRuns: answers differ");
    if (wrong != 0) System.exit(1);
  }

  private void go() {
    // a small number of seats, or of places, makes ranks, ties and waiting lists matter more
    small = 1 + random.nextInt(12);
    for (int i = 0; i < CALLS && agree; i++) {
      if (i < 60 ? random.nextInt(4) > 0 : random.nextInt(12) == 0) grow(); else mixed();
      if (i % LOOK_EVERY == 0 && agree) compare("everything", Calls.everything(program), Calls.everything(model));
    }
  }

  private void grow() {
    int kind = random.nextInt(20);
    if (kind < 3) both("addSchool", number(99), number(99), random.nextInt(small), number(120));
    else if (kind < 8) both("addChild", number(99), number(99), random.nextInt(1 + small), random.nextInt(8));
    else if (kind < 11) readText();
    else both("choose", child(), school(), random.nextInt(4));
  }

  private void mixed() {
    switch (random.nextInt(34)) {
      case 0: case 1: both("setSeats", school(), number(small)); break;
      case 2: both("setRadius", school(), number(198)); break;
      case 3: both("setRule", school(), number(1)); break;
      case 4: both("setLimit", school(), random.nextInt(3) > 0 ? random.nextInt(20) : number(100)); break;
      case 5: both("setPupils", number(11), school(), random.nextBoolean()); break;
      case 6: both("setNeed", child(), random.nextInt(5) == 0 ? -1 : school()); break;
      case 7: case 8: both("choose", child(), school(), number(3)); break;
      case 9: case 10: case 11: both("allocate"); break;
      case 12: case 13: both("withdraw", child()); break;
      case 14: case 15: case 16: case 17: case 18: both("appeal", child(), school(), number(100)); break;
      case 19: case 20: both("undo"); break;
      case 21: both("save"); break;
      case 22: if (random.nextInt(4) == 0) both("restore"); break;
      case 23: both("feed", any("0123456789,fl: \u00e9\uff11")); break;
      case 24: both("readChild"); break;
      case 25: both("school", school(), number(8)); break;
      case 26: both("held", school(), number(5)); break;
      case 27: both("waiting", school(), number(5)); break;
      case 28: both("rank", child(), school(), number(4)); break;
      case 29: both("why", child(), school()); break;
      case 30: both("child", child(), number(7)); break;
      case 31: both("choice", child(), number(3)); break;
      case 32: both("entry", number(90), number(3)); break;
      default: both("account", number(10)); break;
    }
  }

  private void readText() {
    String text = random.nextInt(110) + "," + random.nextInt(100) + "f" + random.nextInt(13) + "l" + random.nextInt(1000);
    if (random.nextInt(3) > 0) {
      text += ":";
      for (int i = 1 + random.nextInt(4); i > 0; i--) text += (char) ('0' + random.nextInt(random.nextInt(4) == 0 ? 7 : 4));
    }
    if (random.nextInt(3) == 0) {
      int at = random.nextInt(text.length());
      text = text.substring(0, at) + any("07,fl:x") + text.substring(at + random.nextInt(2));
    }
    for (char c : text.toCharArray()) both("feed", c);
    both("readChild");
    both("errorPosition");
  }

  private char any(String signs) { return signs.charAt(random.nextInt(signs.length())); }

  /** Mostly from 0 to last, now and then beyond it. */
  private int number(int last) {
    int kind = random.nextInt(40);
    if (kind == 0) return -1;
    if (kind == 1) return last + 1;
    if (kind == 2) return random.nextBoolean() ? Integer.MIN_VALUE : Integer.MAX_VALUE;
    return random.nextInt(last + 1);
  }

  private int school() { return number(Math.max(0, model.account(0) - 1)); }

  private int child() { return number(Math.max(0, model.account(1) - 1)); }

  private void both(String name, Object... args) {
    if (agree) compare(name + Arrays.toString(args), Calls.answer(program, name, args), Calls.answer(model, name, args));
  }

  private void compare(String call, String got, String due) {
    agree = got.equals(due);
    told.add(call + " -> " + (agree && got.length() > 40 ? "agrees" : got) + (agree ? "" : "   DUE: " + due));
  }
}
