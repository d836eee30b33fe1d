import java.util.function.IntSupplier;

/** What the tests share: a house with one system on it, texts given as strings, and the counting. */
public final class Bench {
  /** A word that adds so many items to the definition that is made. */
  static final String FILL = ": n, BEGIN DUP WHILE 1- POSTPONE DUP REPEAT DROP ; IMMEDIATE ";
  /** A word that catches what a token does, goes on behind the text, and leaves the code. */
  static final String TRY = ": t CATCH POSTPONE \\ ; IMMEDIATE ";
  private static int wrong = 0;
  // How many were wrong as the part before ended: benches within a part count for that part.
  private static int wrongBefore = 0;

  final ForthHouse house = new ForthHouse();
  private final String part;

  Bench(String part) {
    this.part = part;
  }

  /** A bench with system 0 of such cells and choices. */
  Bench(String part, int cell, int choices) {
    this(part);
    house.system(cell, choices);
  }

  void due(String what, long got, long want) {
    if (got == want) return;
    wrong++;
    System.out.println("FAIL? " + part + ": " + what + " answered " + got + ", due is " + want);
  }

  void due(String what, String got, String want) {
    if (got.equals(want)) return;
    wrong++;
    System.out.println("FAIL? " + part + ": " + what + " answered [" + got + "], due is [" + want + "]");
  }

  void due(String what, boolean got, boolean want) {
    due(what, got ? 1 : 0, want ? 1 : 0);
  }

  /** Says how the part went. */
  void end() {
    System.out.println((wrong == wrongBefore ? "pass " : "FAIL ") + part);
    wrongBefore = wrong;
  }

  static void exit() {
    if (wrong > 0) System.exit(1);
  }

  void type(String text) {
    for (int i = 0; i < text.length(); i++) house.type(text.charAt(i), 1);
  }

  int run(int system, String text, int steps) {
    type(text);
    return house.evaluate(system, steps);
  }

  int run(String text) {
    return run(0, text, 20000);
  }

  /** Runs a text of system 0 to its end, however many steps it takes. */
  int runOn(String text) {
    int ended = run(text);
    for (int i = 0; i < 20 && ended == 1; i++) ended = house.go(0, 20000);
    return ended;
  }

  /** Runs a text of system 0 that goes well. */
  void good(String text) {
    due("running " + text, run(text), 0);
  }

  /** Runs a text of system 0 that is thrown out with a code. */
  void thrown(String text, int code) {
    due("running " + text, run(text), -2);
    due("code of " + text, house.thrown(0, 0), code);
  }

  /** Runs a text; then DATA of task 0 is so, from the lowest cell on; and it is dropped. */
  void data(String text, String want) {
    good(text);
    due("DATA after " + text, data(0, 0), want);
    for (int n = house.depth(0, 0, 0); n > 0; n--) run("DROP");
  }

  /** A call that is refused: what it answers; all that can be told is as it was before it. */
  void refused(String what, IntSupplier call, int answer) {
    String before = state();
    due(what, call.getAsInt(), answer);
    due("what there is after " + what, state(), before);
  }

  /** All that can be told of the systems and of the chip, but for the TAPE. */
  String state() {
    StringBuilder all = new StringBuilder();
    for (int s = 0; s < 3; s++) tellSystem(all, s);
    for (int i = 0; i < 8; i++) all.append(house.chipTold(i)).append(' ');
    for (int i = 0; i <= house.chipTold(6); i++) all.append(house.chipWord(i)).append(' ');
    for (int i = 0; i <= house.chipTold(1); i++) all.append(house.chipCell(i)).append(' ');
    long bytes = 0;
    for (int i = 0; i <= 4096; i++) bytes = 31 * bytes + house.chipByte(i);
    return all.append(bytes).toString();
  }

  /** All that can be told of a system. */
  String told(int s) {
    StringBuilder all = new StringBuilder();
    tellSystem(all, s);
    return all.toString();
  }

  private void tellSystem(StringBuilder all, int s) {
    if (house.count(s, 0) < 0) return;
    for (int i = 0; i < 16; i++) all.append(house.count(s, i)).append(' ');
    for (int i = 0; i < 3; i++) all.append(house.thrown(s, i)).append(' ');
    for (int task = 0; task < 4; task++) {
      all.append(house.task(s, task)).append(' ');
      for (int row = 0; row < 6; row++) {
        int n = house.depth(s, task, row);
        all.append(n).append(' ');
        for (int i = 0; i < 2 * n; i++) all.append(house.cell(s, task, row, i)).append(' ');
      }
    }
    long bytes = 0;
    for (int i = 0; i < 4096; i++) bytes = 31 * bytes + house.fetch(s, i, 1);
    for (int i = 0; house.out(s, i) >= 0; i++) bytes = 31 * bytes + house.out(s, i);
    for (int t = 172; t < house.count(s, 1); t++) {
      for (int i = 0; i < 8; i++) bytes = 31 * bytes + house.word(s, t, i);
      for (int i = 0; i < 3; i++) bytes = 31 * bytes + 7 * house.effectOf(s, t, i) + house.effect(s, t);
      for (int i = 0; i < 24; i++) bytes = 31 * bytes + house.name(s, t, i);
    }
    for (int i = 0; i < house.count(s, 2); i++) bytes = 31 * bytes + 7 * house.item(s, i, 0) + house.item(s, i, 1);
    all.append(bytes).append(' ');
  }

  /** What a THROW leaves, caught: DATA from the lowest cell on, the code on top. */
  void caught(String before, String definition, String want) {
    data(": (t) " + definition + " ; " + before + " ' (t) CATCH", want);
  }

  String data(int system, int task) {
    return cells(system, task, 0);
  }

  String cells(int system, int task, int which) {
    StringBuilder all = new StringBuilder();
    int n = house.depth(system, task, which);
    for (int i = n - 1; i >= 0; i--) {
      if (all.length() > 0) all.append(' ');
      all.append(house.cell(system, task, which, i));
    }
    return all.toString();
  }

  String out(int system) {
    StringBuilder all = new StringBuilder();
    int b = house.out(system, 0);
    for (int i = 0; b >= 0; b = house.out(system, ++i)) all.append((char) b);
    return all.toString();
  }

  /** Runs a text of a new house's system with such cells: what it puts out. */
  static String output(int cell, int choices, String text) {
    Bench bench = new Bench("", cell, choices);
    int ended = bench.run(text);
    return ended == 0 ? bench.out(0) : "ended " + ended + " code " + bench.house.thrown(0, 0);
  }

  int find(String name) {
    type(name);
    return house.find(0);
  }

  /** Kinds and numbers of items, from a place on. */
  String items(int system, int from, int end) {
    StringBuilder all = new StringBuilder();
    for (int i = from; i < end; i++) {
      if (all.length() > 0) all.append(' ');
      all.append(house.item(system, i, 0)).append(':').append(house.item(system, i, 1));
    }
    return all.toString();
  }

  /** Effect, IN, OUT and the place of what is in the way, of a word of system 0. */
  String effect(String name) {
    int token = find(name);
    return house.effect(0, token) + " " + house.effectOf(0, token, 0) + " "
        + house.effectOf(0, token, 1) + " " + house.effectOf(0, token, 2);
  }
}
