/** The promises 1 to 31, sentence by sentence: what is taken last, what is refused first, in which order. */
public final class EdgesPromisesTest {
  private static final int NONE = -1, BAD = -2, STATE = -3, FULL = -4;
  private static final int LOWEST = -2147483648, HIGHEST = 2147483647;

  public static void main(String[] args) {
    newObject();
    newObjectsAreTheirOwn();
    typeBytes();
    typeFull();
    wipe();
    systemNumbers();
    systemOrder();
    evaluateTape();
    evaluateRefused();
    evaluateEnds();
    evaluateWhole();
    goSteps();
    goAnswers();
    outKept();
    outOrder();
    countRefused();
    countHere();
    countWords();
    countItems();
    countOut();
    countSteps();
    countState();
    countLists();
    countTask();
    countTester();
    countText();
    countLatest();
    countPairs();
    countNested();
    thrownAtFirst();
    thrownCodes();
    thrownIn();
    thrownNested();
    depths();
    cells();
    cellsOfLoops();
    cellsRefused();
    taskStates();
    taskCodes();
    fetches();
    finds();
    findsTape();
    wordKinds();
    wordValues();
    wordItems();
    wordRefused();
    names();
    items();
    effects();
    effectsOf();
    leanRefused();
    leanState();
    leanFewer();
    leanOfLater();
    chipRefused();
    chipNone();
    chipWords();
    chipPuts();
    chipGoes();
    chipTold();
    chipCells();
    chipBytes();
    puts();
    putsTape();
    keeps();
    agains();
    againOver();
    sameBad();
    sameSystems();
    sameWords();
    sameMaking();
    sameTasks();
    sameFrames();
    sameTexts();
    sameNotTold();
    Bench.exit();
  }

  private static void newObject() {
    Bench b = new Bench("promise 1: no systems, no images, a chip without words, an empty TAPE");
    ForthHouse h = b.house;
    for (int s : new int[] {-1, 0, 1, 2, 3}) {
      b.due("count", h.count(s, 0), BAD);
      b.due("go", h.go(s, 1), BAD);
      b.due("out", h.out(s, 0), BAD);
      b.due("task", h.task(s, 0), BAD);
      b.due("keep", h.keep(s, 0), BAD);
      b.due("same", h.same(s, s), false);
    }
    b.due("image 0", h.again(0, 0), NONE);
    b.due("image 1", h.again(0, 1), NONE);
    for (int i = 0; i < 8; i++) b.due("chipTold", h.chipTold(i), 0);
    b.due("chipWord", h.chipWord(0), NONE);
    b.due("chipPut", h.chipPut(0), STATE);
    b.due("chipGo", h.chipGo(1), STATE);
    b.due("chipCell", h.chipCell(0), 0);
    b.due("chipByte", h.chipByte(0), NONE);
    b.due("the TAPE", h.wipe(), 0);
    b.end();
  }

  private static void newObjectsAreTheirOwn() {
    Bench b = new Bench("promise 1: an object has nothing of another one", 4, 0);
    b.good("1 2 : a ;");
    b.house.chip(0, 172);
    b.house.keep(0, 0);
    b.type("abc");
    Bench c = new Bench("");
    c.due("systems", c.house.count(0, 0), BAD);
    c.due("images", c.house.again(0, 0), NONE);
    c.due("chip", c.house.chipTold(6), 0);
    c.due("TAPE", c.house.wipe(), 0);
    c.due("made", c.house.system(2, 0), 0);
    c.due("words", c.house.count(0, 1), 172);
    c.due("DATA", c.house.depth(0, 0, 0), 0);
    b.due("words", b.house.count(0, 1), 173);
    b.due("TAPE", b.house.wipe(), 3);
    b.end();
  }

  /** The bytes on the TAPE, put into a BLOCK of system 0 and printed from there as numbers. */
  private static String tape(Bench b) {
    int n = b.house.put(0, 0, 0);
    b.run("0 LOAD");
    return n + ":" + b.data(0, 0);
  }

  private static void typeBytes() {
    Bench b = new Bench("promise 2: the n lowest bytes, the lowest first; n is 1 .. 8");
    b.house.system(4, 0);
    for (int n = 1; n <= 8; n++) {
      b.due("n " + n, b.house.type(0x3837363534333231L, n), n);
      b.run("");
      b.due("wiped", b.house.wipe(), 0);
      b.house.type(0x3837363534333231L, n);
      b.due("bytes", b.house.evaluate(0, 9), 0);
      b.due("bytes", b.house.cell(0, 0, 0, 0), Integer.parseInt("12345678".substring(0, n)));
    }
    for (int n : new int[] {0, 9, -1, 10, LOWEST, HIGHEST}) {
      b.house.type('a', 1);
      b.refused("type of " + n, () -> b.house.type(0x20L, n), BAD);
      b.due("the TAPE stays", b.house.wipe(), 1);
    }
    b.due("a number below 0", b.house.type(-1L, 8), 8);
    b.house.put(0, 1, 0);
    b.due("its bytes", b.run("1 LOAD"), -2);
    b.due("one word of 8", b.house.thrown(0, 1), 9);
    b.due("0", b.house.type(0, 1), 1);
    b.due("behind what is there", b.house.type(0x20, 2), 3);
    b.end();
  }

  private static void typeFull() {
    Bench b = new Bench("promise 2: FULL, more than 1024");
    for (int i = 1; i <= 128; i++) b.due("eight more", b.house.type(0x2020202020202020L, 8), 8 * i);
    b.due("1025", b.house.type(1, 1), FULL);
    b.due("1032", b.house.type(1, 8), FULL);
    b.due("BAD ahead of FULL", b.house.type(1, 9), BAD);
    b.due("BAD ahead of FULL", b.house.type(1, 0), BAD);
    b.due("none was laid", b.house.wipe(), 1024);
    for (int left = 1; left <= 7; left++) {
      for (int i = 0; i < 127; i++) b.house.type(0, 8);
      b.house.type(0, 8 - left);
      b.due("one too many for " + left, b.house.type(0, left + 1), FULL);
      b.due("8 are too many for " + left, b.house.type(0, 8), FULL);
      b.due("all of " + left, b.house.type(0, left), 1024);
      b.due("wiped", b.house.wipe(), 1024);
    }
    b.end();
  }

  private static void wipe() {
    Bench b = new Bench("promise 3: the TAPE is empty, how many bytes it had", 4, 0);
    b.due("none", b.house.wipe(), 0);
    b.type("x");
    b.due("one", b.house.wipe(), 1);
    b.due("none then", b.house.wipe(), 0);
    for (int i = 0; i < 128; i++) b.house.type('x', 8);
    b.due("1024", b.house.wipe(), 1024);
    b.good("5");
    b.due("none of what was wiped is read", b.data(0, 0), "5");
    b.due("none behind evaluate", b.house.wipe(), 0);
    b.end();
  }

  private static void systemNumbers() {
    Bench b = new Bench("promise 4: bytes of a cell 2 .. 4, choices 0 .. 7");
    for (int cell : new int[] {1, 5, 0, -2, LOWEST, HIGHEST}) b.due("cells of " + cell, b.house.system(cell, 0), BAD);
    for (int choices : new int[] {-1, 8, LOWEST, HIGHEST}) b.due("choices " + choices, b.house.system(2, choices), BAD);
    b.due("none was made", b.house.count(0, 0), BAD);
    for (int cell = 2; cell <= 4; cell++) {
      for (int choices = 0; choices <= 7; choices++) b.due("made", new Bench("").house.system(cell, choices), 0);
    }
    b.end();
  }

  private static void systemOrder() {
    Bench b = new Bench("promise 4: FULL, there are three; BAD ahead of it");
    for (int i = 0; i < 3; i++) b.due("system " + i, b.house.system(2 + i, i), i);
    b.good("1 2 : a ;");
    b.refused("a fourth", () -> b.house.system(4, 0), FULL);
    b.refused("cells of 5", () -> b.house.system(5, 0), BAD);
    b.refused("choices 8", () -> b.house.system(4, 8), BAD);
    b.due("3 is none", b.house.count(3, 0), BAD);
    b.end();
  }

  private static void evaluateTape() {
    Bench b = new Bench("promise 5: the TAPE is empty with all answers", 4, 0);
    int[][] calls = {{-1, 5}, {1, 5}, {3, 5}, {LOWEST, 5}, {HIGHEST, 5}, {0, 0}, {0, -1}, {0, 20001}, {0, LOWEST}, {0, HIGHEST}};
    for (int[] call : calls) {
      b.type("1 2");
      b.refused("evaluate(" + call[0] + ", " + call[1] + ")", () -> b.house.evaluate(call[0], call[1]), BAD);
      b.due("the TAPE", b.house.wipe(), 0);
    }
    b.type("1 2");
    b.due("1", b.house.evaluate(0, 1), 1);
    b.due("the TAPE", b.house.wipe(), 0);
    b.type("3 4");
    b.refused("not over", () -> b.house.evaluate(0, 5), STATE);
    b.due("the TAPE", b.house.wipe(), 0);
    b.house.go(0, 9);
    b.type("foo");
    b.due("-2", b.house.evaluate(0, 5), -2);
    b.due("the TAPE", b.house.wipe(), 0);
    b.end();
  }

  private static void evaluateRefused() {
    Bench b = new Bench("promise 5: BAD, STATE while its text is not over; BAD ahead of STATE", 4, 0);
    b.house.system(2, 0);
    b.due("as few steps as may be", b.run(0, "1 2 3", 1), 1);
    b.refused("BAD ahead of STATE", () -> b.house.evaluate(0, 0), BAD);
    b.refused("BAD ahead of STATE", () -> b.house.evaluate(0, 20001), BAD);
    b.refused("STATE", () -> b.house.evaluate(0, 1), STATE);
    b.refused("STATE", () -> b.house.evaluate(0, 20000), STATE);
    b.due("another system", b.run(1, "5", 20000), 0);
    b.due("it goes on where it was", b.house.go(0, 20000), 0);
    b.due("DATA", b.data(0, 0), "1 2 3");
    b.due("over now", b.run(0, "4", 20000), 0);
    b.due("thrown out", b.run(0, "foo", 9), -2);
    b.due("over, too", b.run(0, "", 9), 0);
    b.end();
  }

  private static void evaluateEnds() {
    Bench b = new Bench("promise 5: steps are done, 1 these are spent, 0 the text is over, -2 it was thrown out of it", 4, 0);
    b.due("an empty text", b.run(0, "", 1), 0);
    b.due("its end is a step", b.run(0, "1", 1), 1);
    b.due("its end is a step", b.house.go(0, 1), 0);
    b.due("at its end at once", b.run(0, "2", 2), 0);
    b.due("thrown out with the last step", b.run(0, "3 foo", 2), -2);
    b.due("spent ahead of that", b.run(0, "3 foo", 1), 1);
    b.due("thrown out", b.house.go(0, 1), -2);
    b.due("caught is not out", b.run(0, ": a 5 THROW ; ' a CATCH", 99), 0);
    b.due("-2 is told once", b.house.go(0, 1), STATE);
    b.end();
  }

  private static void evaluateWhole() {
    Bench b = new Bench("promise 5: all of the TAPE is the text", 4, 0);
    for (int i = 0; i < 127; i++) b.house.type(0x2020202020202020L, 8);
    b.house.type(0x3520202020202020L, 8);
    b.due("1024 bytes", b.house.evaluate(0, 9), 0);
    b.due("the last one", b.data(0, 0), "5");
    b.due(">IN", b.house.fetch(0, 4, 0), 1024);
    b.good("6");
    b.due("nothing of the one before", b.data(0, 0), "5 6");
    b.end();
  }

  private static void goSteps() {
    Bench b = new Bench("promise 6: steps 1 .. 20000, at most", 4, 0);
    b.good(": a BEGIN AGAIN ;");
    b.run(0, "a", 1);
    int steps = b.house.count(0, 4);
    for (int n : new int[] {0, -1, 20001, LOWEST, HIGHEST}) b.refused("go of " + n, () -> b.house.go(0, n), BAD);
    for (int s : new int[] {-1, 1, 3, LOWEST, HIGHEST}) b.refused("system " + s, () -> b.house.go(s, 1), BAD);
    b.due("1", b.house.go(0, 1), 1);
    b.due("one more", b.house.count(0, 4), steps + 1);
    b.due("20000", b.house.go(0, 20000), 1);
    b.due("so many more", b.house.count(0, 4), steps + 20001);
    b.end();
  }

  private static void goAnswers() {
    Bench b = new Bench("promise 6: BAD; STATE, there is no text", 4, 0);
    b.refused("no text", () -> b.house.go(0, 1), STATE);
    b.refused("BAD ahead of STATE", () -> b.house.go(0, 0), BAD);
    b.run(0, "1 2", 1);
    b.due("1", b.house.go(0, 1), 1);
    b.due("0", b.house.go(0, 1), 0);
    b.refused("over", () -> b.house.go(0, 1), STATE);
    b.run(0, "1 foo", 1);
    b.due("-2", b.house.go(0, 5), -2);
    b.refused("thrown out", () -> b.house.go(0, 1), STATE);
    b.due("fewer steps than told", b.run(0, "7", 1000) + b.house.go(0, 1000), STATE);
    b.end();
  }

  private static void outKept() {
    Bench b = new Bench("promise 7: the first 3000 bytes are kept", 4, 0);
    b.due("none", b.house.out(0, 0), NONE);
    b.good("65 EMIT");
    b.due("the first", b.house.out(0, 0), 65);
    b.due("none behind", b.house.out(0, 1), NONE);
    b.good("2998 SPACES 66 EMIT");
    b.due("the last", b.house.out(0, 2999), 66);
    b.due("none behind", b.house.out(0, 3000), NONE);
    b.good("67 EMIT 5 . S\" abc\" TYPE 9 SPACES");
    b.due("the last stays", b.house.out(0, 2999), 66);
    b.due("3000", b.house.out(0, 3000), NONE);
    b.due("all are counted", b.house.count(0, 3), 3000 + 1 + 2 + 3 + 9);
    Bench c = new Bench("", 4, 0);
    c.good("2999 SPACES 12 .");
    b.due("a part of a number", c.house.out(0, 2999), '1');
    b.due("not the rest", c.house.out(0, 3000), NONE);
    c = new Bench("", 4, 0);
    c.good("2998 SPACES S\" abc\" TYPE");
    b.due("a part of a string", c.house.out(0, 2999), 'b');
    b.due("not the rest", c.house.out(0, 3000), NONE);
    c = new Bench("", 4, 0);
    c.good("2998 SPACES .\" abc\"");
    b.due("a part of a string", c.house.out(0, 2999), 'b');
    c = new Bench("", 4, 0);
    c.good("2999 SPACES 5 SPACES");
    b.due("a part of blanks", c.house.out(0, 2999), 32);
    b.due("not the rest", c.house.out(0, 3000), NONE);
    b.end();
  }

  private static void outOrder() {
    Bench b = new Bench("promise 7: BAD; NONE", 4, 0);
    for (int i : new int[] {-1, 0, 3000, LOWEST, HIGHEST}) {
      b.due("none at " + i, b.house.out(0, i), NONE);
      for (int s : new int[] {-1, 1, 3, LOWEST, HIGHEST}) b.due("system " + s, b.house.out(s, i), BAD);
    }
    b.good("255 EMIT");
    b.due("without sign", b.house.out(0, 0), 255);
    b.end();
  }

  private static void countRefused() {
    Bench b = new Bench("promise 8: what is 0 .. 15, BAD", 4, 0);
    for (int what : new int[] {-1, 16, LOWEST, HIGHEST}) b.due("what " + what, b.house.count(0, what), BAD);
    for (int s : new int[] {-1, 1, LOWEST, HIGHEST}) b.due("system " + s, b.house.count(s, 0), BAD);
    int[] first = {256, 172, 0, 0, 0, 0, 1, 1, 1, 0, 0, 0, 0, NONE, 0, 0};
    for (int i = 0; i < 16; i++) b.due("what " + i, b.house.count(0, i), first[i]);
    b.end();
  }

  private static void countHere() {
    Bench b = new Bench("promise 8: 0, HERE", 4, 0);
    b.good("3840 ALLOT");
    b.due("the highest", b.house.count(0, 0), 4096);
    b.good("-3840 ALLOT");
    b.due("the lowest", b.house.count(0, 0), 256);
    b.end();
  }

  private static void countWords() {
    Bench b = new Bench("promise 8: 1, words, with those that have no name and those that are HIDDEN", 4, 0);
    b.good(": a [: ;] ; :NONAME ; : c 1");
    b.due("172 and 4", b.house.count(0, 1), 176);
    b.thrown("foo", -13);
    b.due("one is taken back", b.house.count(0, 1), 175);
    b.end();
  }

  private static void countItems() {
    Bench b = new Bench("promise 8: 2, items, with those that are under way", 4, 0);
    b.good(": a 1 2");
    b.due("two", b.house.count(0, 2), 2);
    b.good(";");
    b.due("three", b.house.count(0, 2), 3);
    b.thrown(": c 1 2 foo", -13);
    b.due("taken back", b.house.count(0, 2), 3);
    b.end();
  }

  private static void countOut() {
    Bench b = new Bench("promise 8: 3, bytes put out, 2147483647 at most", 4, 0);
    b.good("2147483646 SPACES");
    b.due("one less", b.house.count(0, 3), HIGHEST - 1);
    b.good("SPACE");
    b.due("the most", b.house.count(0, 3), HIGHEST);
    b.good("SPACE 5 SPACES 1 . 0 9 TYPE .\" abc\" 2147483647 SPACES");
    b.due("the most", b.house.count(0, 3), HIGHEST);
    Bench c = new Bench("", 4, 0);
    c.good("2147483640 SPACES 0 9 TYPE");
    b.due("over it at once", c.house.count(0, 3), HIGHEST);
    b.end();
  }

  private static void countSteps() {
    Bench b = new Bench("promise 8: 4, steps done", 4, 0);
    b.good("1 2");
    b.due("three", b.house.count(0, 4), 3);
    b.thrown("foo 5", -13);
    b.due("the one that threw, too", b.house.count(0, 4), 4);
    b.due("none without a text", b.house.go(0, 9) + b.house.count(0, 4), 4 + STATE);
    b.end();
  }

  private static void countState() {
    Bench b = new Bench("promise 8: 5, STATE, 1 compiling", 4, 0);
    String[][] due = {{": a", "1"}, {"[", "0"}, {"]", "1"}, {"[: ", "1"}, {";]", "1"}, {";", "0"}, {":NONAME", "1"}, {"; DROP", "0"}, {": c foo", "0"}};
    for (String[] d : due) {
      b.run(d[0]);
      b.due(d[0], b.house.count(0, 5), Integer.parseInt(d[1]));
    }
    b.end();
  }

  private static void countLists() {
    Bench b = new Bench("promise 8: 6 lists, 7 the search order's length, 8 the list for new words", 4, 0);
    b.good("WORDLIST DROP");
    b.due("lists", b.house.count(0, 6) * 100 + b.house.count(0, 7) * 10 + b.house.count(0, 8), 211);
    b.good("2 >ORDER");
    b.due("order", b.house.count(0, 6) * 100 + b.house.count(0, 7) * 10 + b.house.count(0, 8), 221);
    b.good("DEFINITIONS");
    b.due("the list for new words", b.house.count(0, 6) * 100 + b.house.count(0, 7) * 10 + b.house.count(0, 8), 222);
    b.good("PREVIOUS");
    b.due("one", b.house.count(0, 7), 1);
    b.thrown("PREVIOUS ONLY", -13);
    b.due("none", b.house.count(0, 7), 0);
    b.end();
  }

  private static void countTask() {
    Bench b = new Bench("promise 8: 9, the task at hand", 4, 0);
    b.good(": w BEGIN PAUSE AGAIN ; ' w TASK ' w TASK ' w TASK 2DROP DROP");
    b.due("PAUSE", b.run(0, "PAUSE 1", 1), 1);
    int[] due = {1, 1, 2, 2, 3, 3, 0, 0};
    b.due("at once", b.house.count(0, 9), 1);
    // A task's beginning, then its PAUSE, then the next one.
    b.house.go(0, 1);
    b.due("begun", b.house.count(0, 9), 1);
    b.house.go(0, 1);
    b.due("2", b.house.count(0, 9), 2);
    b.house.go(0, 2);
    b.due("3", b.house.count(0, 9), 3);
    b.house.go(0, 2);
    b.due("0", b.house.count(0, 9), 0);
    b.house.go(0, 2);
    b.due("the text is over in task 0", b.house.count(0, 9) * 10 + b.house.count(0, 12), 0);
    b.end();
  }

  private static void countTester() {
    Bench b = new Bench("promise 8: 10 GOOD, 11 BAD of the tester", 4, 0);
    b.good("T{ 1 -> 1 }T T{ 1 -> 2 }T T{ 1 -> 1 }T");
    b.due("GOOD", b.house.count(0, 10), 2);
    b.due("BAD", b.house.count(0, 11), 1);
    b.end();
  }

  private static void countText() {
    Bench b = new Bench("promise 8: 12, whether its text is not over", 4, 0);
    b.run(0, "1 2", 2);
    b.due("not over", b.house.count(0, 12), 1);
    b.house.go(0, 1);
    b.due("over", b.house.count(0, 12), 0);
    b.run(0, "foo", 2);
    b.due("thrown out", b.house.count(0, 12), 0);
    b.end();
  }

  private static void countLatest() {
    Bench b = new Bench("promise 8: 13, the latest word with a name, NONE at first", 4, 0);
    b.good(":NONAME [: ;] ; DROP");
    b.due("none", b.house.count(0, 13), NONE);
    b.good(": a");
    b.due("HIDDEN", b.house.count(0, 13), 174);
    b.thrown("foo", -13);
    b.due("taken back", b.house.count(0, 13), NONE);
    b.good(": a [ CREATE c ] [: ;] ;");
    b.due("made within", b.house.count(0, 13), 175);
    b.good("MARKER m m");
    b.due("as before", b.house.count(0, 13), 175);
    b.end();
  }

  private static void countPairs() {
    Bench b = new Bench("promise 8: 14, pairs of CONTROL", 4, 0);
    b.good(": a IF [: BEGIN");
    b.due("those around, too", b.house.count(0, 14), 2);
    b.good("WHILE");
    b.due("3", b.house.count(0, 14), 3);
    b.good("REPEAT ;] DROP THEN ;");
    b.due("0", b.house.count(0, 14), 0);
    b.end();
  }

  private static void countNested() {
    Bench b = new Bench("promise 8: 15, nested texts", 4, 0);
    b.run(0, "S\" 1 2\" EVALUATE 3", 2);
    b.due("one", b.house.count(0, 15), 1);
    b.house.go(0, 3);
    b.due("none", b.house.count(0, 15), 0);
    b.due("3", b.house.go(0, 9) + b.house.cell(0, 0, 0, 0), 3);
    b.end();
  }

  private static void thrownAtFirst() {
    Bench b = new Bench("promise 9: 0, nothing yet; what is 0 .. 2, BAD", 4, 0);
    for (int what = 0; what < 3; what++) b.due("what " + what, b.house.thrown(0, what), 0);
    for (int what : new int[] {-1, 3, LOWEST, HIGHEST}) b.due("what " + what, b.house.thrown(0, what), BAD);
    for (int s : new int[] {-1, 1, LOWEST, HIGHEST}) b.due("system " + s, b.house.thrown(s, 0), BAD);
    b.good(": a 5 THROW ; ' a CATCH DROP ' a TASK DROP PAUSE");
    for (int what = 0; what < 3; what++) b.due("out of no task 0, " + what, b.house.thrown(0, what), 0);
    b.end();
  }

  private static void thrownCodes() {
    Bench b = new Bench("promise 9: the code of what was thrown out of task 0 last", 4, 0);
    for (int code : new int[] {1, -1, 5, HIGHEST, LOWEST, -4096}) b.thrown(code + " THROW", code);
    b.good("5");
    b.due("it stays", b.house.thrown(0, 0), -4096);
    b.thrown("ABORT", -1);
    b.end();
  }

  private static void thrownIn() {
    Bench b = new Bench("promise 9: >IN then, the cell, without sign");
    long[] most = {65535, 16777215};
    for (int cell = 2; cell <= 3; cell++) {
      Bench one = new Bench("", cell, 4);
      one.thrown("   foo   ", -13);
      b.due("behind the word", one.house.thrown(0, 1), 7);
      one.thrown(": a -1 >IN ! 5 THROW ; a", 5);
      b.due("without sign", one.house.thrown(0, 1), most[cell - 2]);
      one.thrown("CREATE", -16);
      b.due("the end", one.house.thrown(0, 1), 6);
    }
    Bench four = new Bench("", 4, 0);
    four.thrown(": a 2147483647 >IN ! 5 THROW ; a", 5);
    b.due("4 bytes", four.house.thrown(0, 1), HIGHEST);
    b.end();
  }

  private static void thrownNested() {
    Bench b = new Bench("promise 9: how many texts were nested then", 4, 0);
    b.thrown("foo", -13);
    b.due("0", b.house.thrown(0, 2), 0);
    b.thrown("S\" foo\" EVALUATE", -13);
    b.due("1", b.house.thrown(0, 2), 1);
    b.due(">IN of that one", b.house.thrown(0, 1), 3);
    b.good(": r 128 8 EVALUATE ;");
    b.thrown("S\" r       \" EVALUATE", -5);
    b.due("5", b.house.thrown(0, 2), 5);
    b.thrown("1 THROW", 1);
    b.due("0 again", b.house.thrown(0, 2), 0);
    b.end();
  }

  private static void depths() {
    Bench b = new Bench("promise 10: cells of a task, which is 0 .. 5, 0 of one that was never made", 4, 0);
    for (int task = 0; task < 4; task++) for (int i = 0; i < 6; i++) b.due("task " + task, b.house.depth(0, task, i), 0);
    for (int i : new int[] {-1, 6, LOWEST, HIGHEST}) b.due("which " + i, b.house.depth(0, 0, i), BAD);
    for (int i : new int[] {-1, 4, LOWEST, HIGHEST}) b.due("task " + i, b.house.depth(0, i, 0), BAD);
    for (int i : new int[] {-1, 1, LOWEST, HIGHEST}) b.due("system " + i, b.house.depth(i, 0, 0), BAD);
    b.good(": w {: a b | c :} 5 >R 6 >R 9 0 DO 9 0 DO 1 2 3 4 PAUSE LOOP LOOP ; : x 7 8 w ; ' x TASK DROP PAUSE 1 1 SEND DROP");
    int[] due = {4, 2, 2, 3, 2, 1};
    for (int i = 0; i < 6; i++) b.due("row " + i, b.house.depth(0, 1, i), due[i]);
    for (int i = 0; i < 6; i++) b.due("of task 0, row " + i, b.house.depth(0, 0, i), 0);
    b.end();
  }

  private static void cells() {
    Bench b = new Bench("promise 11: from the top on, of LOCALS and BOX from the first on, 0: there is none", 4, 0);
    b.good(": w {: a b | c :} 5 >R 6 >R 1 2 3 4 PAUSE 2R> ; : x 7 8 w ; ' x TASK DROP PAUSE 11 1 SEND 12 1 SEND 13 1 SEND 14 1 SEND 2DROP 2DROP");
    int[][] due = {{4, 3, 2, 1, 0}, {6, 5, 0, 0, 0}, {0, 0, 0, 0, 0}, {7, 8, 0, 0, 0}, {BAD, BAD, BAD, BAD, BAD}, {11, 12, 13, 14, 0}};
    for (int row = 0; row < 6; row++) for (int i = 0; i < 5; i++) b.due("row " + row + " cell " + i, b.house.cell(0, 1, row, i), due[row][i]);
    for (int row = 0; row < 6; row++) for (int i : new int[] {-1, 64, 1000, LOWEST, HIGHEST}) b.due("cell " + i, b.house.cell(0, 1, row, i), row == 4 ? BAD : 0);
    for (int row = 0; row < 6; row++) b.due("never made", b.house.cell(0, 3, row, 0), row == 4 ? BAD : 0);
    b.good(": ones 0 DO I LOOP ; 64 ones");
    b.due("the lowest of 64", b.house.cell(0, 0, 0, 63), 0);
    b.due("the one above", b.house.cell(0, 0, 0, 62), 1);
    b.due("none behind", b.house.cell(0, 0, 0, 64), 0);
    Bench gone = new Bench("", 4, 0);
    gone.good(": low {: p q :} 8 >R 9 >R 2R> 2DROP ; : high {: a :} 5 6 low PAUSE ; : top 7 high ; ' top TASK DROP PAUSE");
    b.due("a local", gone.house.cell(0, 1, 3, 0), 7);
    for (int i = 1; i < 4; i++) b.due("what was there before, " + i, gone.house.cell(0, 1, 3, i) + gone.house.cell(0, 1, 1, i - 1), 0);
    b.end();
  }

  private static void cellsOfLoops() {
    Bench b = new Bench("promise 11: of LOOPS from the innermost on, INDEX, then limit", 4, 0);
    b.good(": w 20 10 DO 40 30 DO BEGIN AGAIN LOOP LOOP ;");
    b.run(0, "w", 20);
    int[] due = {30, 40, 10, 20, 0, 0};
    for (int i = 0; i < due.length; i++) b.due("cell " + i, b.house.cell(0, 0, 2, i), due[i]);
    b.due("-1", b.house.cell(0, 0, 2, -1), 0);
    b.house.system(4, 0);
    b.run(1, ": a DUP 100 + SWAP DO DUP 15 < IF 1+ DUP RECURSE THEN BEGIN AGAIN LOOP ; 0 0 a", 3000);
    b.due("16", b.house.depth(1, 0, 2), 16);
    b.due("the outermost", b.house.cell(1, 0, 2, 30), 0);
    b.due("its limit", b.house.cell(1, 0, 2, 31), 100);
    b.due("the innermost", b.house.cell(1, 0, 2, 0), 15);
    b.due("none", b.house.cell(1, 0, 2, 32), 0);
    b.end();
  }

  private static void cellsRefused() {
    Bench b = new Bench("promise 11: BAD, of FRAMES, too", 4, 0);
    for (int i : new int[] {4, -1, 6, LOWEST, HIGHEST}) b.due("which " + i, b.house.cell(0, 0, i, 0), BAD);
    for (int i : new int[] {-1, 4, LOWEST, HIGHEST}) b.due("task " + i, b.house.cell(0, i, 0, 0), BAD);
    for (int i : new int[] {-1, 1, LOWEST, HIGHEST}) b.due("system " + i, b.house.cell(i, 0, 0, 0), BAD);
    b.end();
  }

  private static void taskStates() {
    Bench b = new Bench("promise 12: 0 never made, 1 READY, 2 it waits for its BOX, 3 ENDED", 4, 0);
    b.due("task 0", b.house.task(0, 0), 1);
    for (int i = 1; i < 4; i++) b.due("task " + i, b.house.task(0, i), 0);
    for (int i : new int[] {-1, 4, LOWEST, HIGHEST}) b.due("task " + i, b.house.task(0, i), BAD);
    for (int i : new int[] {-1, 1, LOWEST, HIGHEST}) b.due("system " + i, b.house.task(i, 0), BAD);
    b.good(": r RECEIVE DROP ; ' r TASK DROP");
    b.due("made", b.house.task(0, 1), 1);
    b.good("PAUSE");
    b.due("waits", b.house.task(0, 1), 2);
    b.good("5 1 SEND DROP");
    b.due("READY", b.house.task(0, 1), 1);
    b.good("PAUSE");
    b.due("ENDED", b.house.task(0, 1), 3);
    b.good(": p BEGIN PAUSE AGAIN ; ' p TASK DROP");
    b.run(0, "RECEIVE", 20);
    b.due("task 0 waits", b.house.task(0, 0), 2);
    b.end();
  }

  private static void taskCodes() {
    Bench b = new Bench("promise 12: ENDED less 16 times the code, going round", 4, 0);
    b.good("VARIABLE c : w c @ THROW ;");
    for (int code : new int[] {1, -1, 5, -13, 134217728, 268435456, HIGHEST, LOWEST, -268435456}) {
      b.good(code + " c ! ' w TASK DROP PAUSE");
      b.due("code " + code, b.house.task(0, 1), 3 - 16 * code);
    }
    b.good("0 c ! ' w TASK DROP PAUSE");
    b.due("THROW of 0", b.house.task(0, 1), 3);
    b.end();
  }

  private static void fetches() {
    Bench b = new Bench("promise 13: a byte of SPACE, or the cell there; BAD, another n, not all in SPACE");
    for (int cell = 2; cell <= 4; cell++) {
      Bench one = new Bench("", cell, 0);
      one.good("-2 4096 CELL+ 4096 - 4096 SWAP - ! 255 0 2 + C!");
      b.due("the last cell", one.house.fetch(0, 4096 - cell, 0), -2);
      b.due("the last byte", one.house.fetch(0, 4095, 1), 255);
      b.due("the first byte", one.house.fetch(0, 0, 1), 10);
      b.due("a byte without sign", one.house.fetch(0, 2, 1), 255);
      for (int at : new int[] {4096 - cell + 1, 4095, 4096, -1, LOWEST, HIGHEST}) b.due("the cell at " + at, one.house.fetch(0, at, 0), BAD);
      for (int at : new int[] {4096, -1, LOWEST, HIGHEST}) b.due("the byte at " + at, one.house.fetch(0, at, 1), BAD);
      for (int n : new int[] {-1, 2, 3, 4, LOWEST, HIGHEST}) b.due("n " + n, one.house.fetch(0, 0, n), BAD);
      for (int s : new int[] {-1, 1, LOWEST, HIGHEST}) b.due("system " + s, one.house.fetch(s, 0, 1), BAD);
    }
    b.end();
  }

  private static void finds() {
    Bench b = new Bench("promise 14: the token of the name that is on the TAPE, by the search order", 4, 0);
    String name = "abcdefghijklmnopqrstuvwx";
    b.good("CREATE " + name + " CREATE y CREATE y WORDLIST >ORDER DEFINITIONS CREATE dup CREATE y");
    b.due("24 bytes", b.find(name), 172);
    b.due("25 bytes", b.find(name + "y"), NONE);
    b.due("23 bytes", b.find(name.substring(1)), NONE);
    b.due("the latest list", b.find("Y"), 176);
    b.due("the latest list", b.find("dup"), 175);
    b.due("behind a blank", b.find(" dup"), NONE);
    b.due("with a blank", b.find("dup "), NONE);
    b.due("two names", b.find("dup y"), NONE);
    b.due("a number", b.find("5"), NONE);
    b.due("an empty TAPE", b.find(""), NONE);
    b.good("ONLY");
    b.due("the newest", b.find("y"), 174);
    b.due("list 1", b.find("dup"), 0);
    b.thrown("PREVIOUS foo", -13);
    b.due("no order", b.find("dup"), NONE);
    b.end();
  }

  private static void findsTape() {
    Bench b = new Bench("promise 14: the TAPE is empty then; NONE, BAD", 4, 0);
    for (int s : new int[] {-1, 1, LOWEST, HIGHEST}) {
      b.type("DUP");
      b.refused("system " + s, () -> b.house.find(s), BAD);
      b.due("the TAPE", b.house.wipe(), 0);
    }
    b.type("foo");
    b.refused("none", () -> b.house.find(0), NONE);
    b.due("the TAPE", b.house.wipe(), 0);
    b.type("DUP");
    b.due("DUP", b.house.find(0), 0);
    b.due("the TAPE", b.house.wipe(), 0);
    for (int i = 0; i < 128; i++) b.house.type(0x6161616161616161L, 8);
    b.due("1024 bytes", b.house.find(0), NONE);
    b.end();
  }

  /** All that word() tells of a token. */
  private static String word(Bench b, int token) {
    StringBuilder all = new StringBuilder();
    for (int i = 0; i < 8; i++) all.append(i > 0 ? " " : "").append(b.house.word(0, token, i));
    return all.toString();
  }

  private static void wordKinds() {
    Bench b = new Bench("promise 15: kind, IMMEDIATE, list, value, items, DOES, bytes, HIDDEN", 4, 0);
    b.good(": a 1 ; IMMEDIATE -7 CONSTANT cc 8 VALUE v VARIABLE w CREATE d DEFER e MARKER m");
    String[] due = {"1 1 1 0 2 -1 1 0", "2 0 1 -7 0 -1 2 0", "4 0 1 8 0 -1 1 0", "7 0 1 256 0 -1 1 0", "3 0 1 260 0 -1 1 0", "5 0 1 -1 0 -1 1 0",
      "6 0 1 0 0 -1 1 0"};
    for (int i = 0; i < due.length; i++) b.due("word " + i, word(b, 172 + i), due[i]);
    b.due("DUP", word(b, 0), "0 0 1 0 0 -1 3 0");
    b.due("IF", word(b, 133), "0 1 1 0 0 -1 2 0");
    b.good(": mk CREATE DOES> ; WORDLIST >ORDER DEFINITIONS mk r :NONAME [: ;] ; DROP : h 1");
    b.due("with DOES", word(b, 180), "3 0 2 260 0 4 1 0");
    b.due("without a name", word(b, 181), "1 0 0 5 4 -1 0 0");
    b.due("within", word(b, 182), "1 0 0 6 1 -1 0 0");
    b.due("HIDDEN", word(b, 183), "1 0 2 9 0 -1 1 1");
    b.end();
  }

  private static void wordValues() {
    Bench b = new Bench("promise 15: 3, the value, address, action or first item, as they are now", 4, 0);
    b.good("8 VALUE v DEFER e MARKER m2");
    b.good("9 TO v ' DUP IS e");
    b.due("a VALUE", b.house.word(0, 172, 3), 9);
    b.due("an action", b.house.word(0, 173, 3), 0);
    b.due("a MARKER", b.house.word(0, 174, 3), 0);
    b.good("MARKER another");
    b.due("another MARKER", b.house.word(0, 175, 3), 0);
    b.good("2147483647 TO v");
    b.due("the highest", b.house.word(0, 172, 3), HIGHEST);
    b.good("4096 HERE - ALLOT CREATE z");
    b.due("the highest address", b.house.word(0, 176, 3), 4096);
    b.end();
  }

  private static void wordItems() {
    Bench b = new Bench("promise 15: 4, its items, 0 of others, or while it is HIDDEN; 5, NONE without DOES", 4, 0);
    b.good(": a ;");
    b.due("EXIT alone", b.house.word(0, 172, 4), 1);
    b.good(": c 1 [: 2");
    b.due("HIDDEN", b.house.word(0, 173, 4) + b.house.word(0, 174, 4), 0);
    b.good(";]");
    b.due("the one within", b.house.word(0, 174, 4), 2);
    b.due("HIDDEN yet", b.house.word(0, 173, 4) + b.house.word(0, 173, 7), 1);
    b.good(";");
    b.due("all", b.house.word(0, 173, 4), 6);
    b.good(": l 1 2 + ;");
    b.house.lean(0, b.find("l"));
    b.due("leaner", b.house.word(0, b.find("l"), 4), 2);
    b.good("MARKER m : e 1 2 3 ; : f 4 5 ; m : e [");
    b.due("HIDDEN, where one was", b.house.word(0, b.house.count(0, 13), 4), 0);
    b.good("] ; CREATE f");
    b.due("of no definition, where one was", b.house.word(0, b.house.count(0, 13), 4), 0);
    b.due("no DOES of a definition", b.house.word(0, 172, 5), NONE);
    b.end();
  }

  private static void wordRefused() {
    Bench b = new Bench("promise 15: BAD", 4, 0);
    b.good(": a ;");
    for (int i : new int[] {-1, 8, LOWEST, HIGHEST}) b.due("what " + i, b.house.word(0, 0, i), BAD);
    for (int i : new int[] {-1, 173, 360, LOWEST, HIGHEST}) b.due("token " + i, b.house.word(0, i, 0), BAD);
    for (int i : new int[] {-1, 1, LOWEST, HIGHEST}) b.due("system " + i, b.house.word(i, 0, 0), BAD);
    b.end();
  }

  private static void names() {
    Bench b = new Bench("promise 16: byte i of a word's name; NONE, BAD", 4, 0);
    b.good("CREATE abcdefghijklmnopqrstuvwx CREATE " + (char) 255 + " :NONAME ; DROP");
    b.due("the first", b.house.name(0, 172, 0), 'a');
    b.due("the last", b.house.name(0, 172, 23), 'x');
    b.due("without sign", b.house.name(0, 173, 0), 255);
    for (int i : new int[] {-1, 24, LOWEST, HIGHEST}) b.due("byte " + i, b.house.name(0, 172, i), NONE);
    b.due("behind one byte", b.house.name(0, 173, 1), NONE);
    for (int i : new int[] {-1, 0, 1}) b.due("without a name " + i, b.house.name(0, 174, i), NONE);
    for (int i : new int[] {-1, 175, LOWEST, HIGHEST}) b.due("token " + i, b.house.name(0, i, -1), BAD);
    for (int i : new int[] {-1, 1, LOWEST, HIGHEST}) b.due("system " + i, b.house.name(i, 0, 0), BAD);
    b.end();
  }

  private static void items() {
    Bench b = new Bench("promise 17: an item by its place, kind and number; BAD", 4, 0);
    b.due("none", b.house.item(0, 0, 0), BAD);
    b.good(": a -5 ;");
    b.due("the first", b.items(0, 0, 1), "1:-5");
    b.due("the last", b.items(0, 1, 2), "0:150");
    for (int i : new int[] {-1, 2, LOWEST, HIGHEST}) b.due("place " + i, b.house.item(0, i, 0), BAD);
    for (int i : new int[] {-1, 2, LOWEST, HIGHEST}) b.due("what " + i, b.house.item(0, 0, i), BAD);
    for (int i : new int[] {-1, 1, LOWEST, HIGHEST}) b.due("system " + i, b.house.item(i, 0, 0), BAD);
    b.good(": c 7");
    b.due("under way", b.items(0, 2, 3), "1:7");
    b.thrown("foo", -13);
    b.due("taken back", b.house.item(0, 2, 0), BAD);
    b.end();
  }

  private static void effects() {
    Bench b = new Bench("promise 18: 1 known, 0 CONFLICT, 2 UNKNOWN; BAD, no definition, not ended", 4, 0);
    b.good(": k + ; : c IF 1 THEN ; : u EXECUTE ; :NONAME [: R> ;] ; DROP 5 CONSTANT x 5 VALUE v CREATE r DEFER d MARKER m VARIABLE w : h [: ;]");
    int[] due = {1, 0, 2, 1, 0};
    for (int i = 0; i < due.length; i++) b.due("definition " + i, b.house.effect(0, 172 + i), due[i]);
    for (int i = 177; i < 183; i++) b.due("no definition " + i, b.house.effect(0, i), BAD);
    b.due("not ended", b.house.effect(0, 183), BAD);
    b.due("one within, ended", b.house.effect(0, 184), 1);
    for (int i : new int[] {0, 171, -1, 185, LOWEST, HIGHEST}) b.due("token " + i, b.house.effect(0, i), BAD);
    for (int i : new int[] {-1, 1, LOWEST, HIGHEST}) b.due("system " + i, b.house.effect(i, 172), BAD);
    b.end();
  }

  private static void effectsOf() {
    Bench b = new Bench("promise 19: IN, OUT (0 if it is not known), the item in the way (NONE if it is known); BAD", 4, 0);
    b.good(": k ROT + ; : c 5 DROP DROP IF 1 THEN ; : u DROP 1 2 EXECUTE ; 5 CONSTANT x : h");
    b.due("known", b.effect("k"), "1 3 2 -1");
    b.due("CONFLICT", b.effect("c"), "0 0 0 8");
    b.due("UNKNOWN", b.effect("u"), "2 0 0 12");
    for (int i : new int[] {-1, 3, LOWEST, HIGHEST}) b.due("what " + i, b.house.effectOf(0, 172, i), BAD);
    for (int i : new int[] {0, -1, 175, 176, 177, LOWEST, HIGHEST}) for (int what = 0; what < 3; what++) b.due("token " + i, b.house.effectOf(0, i, what), BAD);
    for (int i : new int[] {-1, 1, LOWEST, HIGHEST}) b.due("system " + i, b.house.effectOf(i, 172, 0), BAD);
    b.end();
  }

  private static void leanRefused() {
    Bench b = new Bench("promise 20: BAD as effect(), with DOES, with one within it, or that is one within", 4, 0);
    b.good(": ok 1 2 + ; : d 1 2 + DOES> ; : q 1 2 + [: 1 2 + ;] ; 5 CONSTANT x : e EXIT DOES> 5 ; : n [: [: ;] ;] ; : h 1 2 +");
    int[] bad = {b.find("d"), b.find("q"), b.find("q") + 1, b.find("x"), b.find("e"), b.find("n"), b.find("n") + 1, b.find("n") + 2, b.find("n") + 3,
      0, -1, 1000, LOWEST, HIGHEST};
    for (int token : bad) b.refused("lean of " + token, () -> b.house.lean(0, token), BAD);
    for (int s : new int[] {-1, 1, LOWEST, HIGHEST}) b.refused("system " + s, () -> b.house.lean(s, b.find("ok")), BAD);
    b.thrown("foo", -13);
    b.due("ok", b.house.lean(0, b.find("ok")), 2);
    b.end();
  }

  private static void leanState() {
    Bench b = new Bench("promise 20: STATE, the text is not over, something is under way, or another task has not ended; BAD ahead of it", 4, 0);
    b.good(": ok 1 2 + ; : d DOES> ;");
    b.run(0, "1 2", 1);
    b.refused("not over", () -> b.house.lean(0, 172), STATE);
    b.refused("BAD ahead of STATE", () -> b.house.lean(0, 173), BAD);
    b.house.go(0, 9);
    b.good(": u");
    b.refused("under way", () -> b.house.lean(0, 172), STATE);
    b.refused("BAD ahead of STATE", () -> b.house.lean(0, 174), BAD);
    b.good("[");
    b.refused("under way while interpreting", () -> b.house.lean(0, 172), STATE);
    b.good("] ; : w RECEIVE DROP ; ' w TASK DROP");
    b.refused("a task that is READY", () -> b.house.lean(0, 172), STATE);
    b.good("PAUSE");
    b.refused("a task that waits", () -> b.house.lean(0, 172), STATE);
    b.good("5 1 SEND DROP PAUSE");
    b.due("it has ended", b.house.task(0, 1), 3);
    b.due("fewer", b.house.lean(0, 172), 2);
    b.end();
  }

  private static void leanFewer() {
    Bench b = new Bench("promise 20: how many items fewer", 4, 0);
    b.good(": a ; : c 1 2 + ; : d 1 2 + 3 * NEGATE DROP ;");
    b.refused("none", () -> b.house.lean(0, 172), 0);
    b.due("2", b.house.lean(0, 173), 2);
    b.refused("none more", () -> b.house.lean(0, 173), 0);
    b.due("7", b.house.lean(0, 174), 7);
    b.data("1 a c d", "1 3");
    b.end();
  }

  private static void leanOfLater() {
    Bench b = new Bench("promise 20: a definition that has the token of one that had one within is none of these", 4, 0);
    b.good("MARKER m : a [: ;] DROP ; m : x ; : y ; : z 1 2 + ; : q [: ;] DROP ;");
    b.due("where the one within was", b.house.lean(0, 174), 2);
    b.due("with one within", b.house.lean(0, 175), BAD);
    b.end();
  }

  private static void chipRefused() {
    Bench b = new Bench("promise 21: BAD as effect(), which leaves the chip", 4, 0);
    b.good(": a 5 ; 5 CONSTANT x : h");
    b.house.chip(0, 172);
    b.house.chipPut(7);
    b.house.chipGo(1);
    for (int i : new int[] {0, -1, 173, 174, 175, LOWEST, HIGHEST}) b.refused("token " + i, () -> b.house.chip(0, i), BAD);
    for (int i : new int[] {-1, 1, LOWEST, HIGHEST}) b.refused("system " + i, () -> b.house.chip(i, 172), BAD);
    b.due("it goes on", b.house.chipGo(1), 0);
    b.due("its cells", b.house.chipCell(0) * 10 + b.house.chipCell(1), 57);
    b.due("made anew", b.house.chip(0, 172), 3);
    b.due("empty rows", b.house.chipTold(1), 0);
    b.due("at its beginning", b.house.chipTold(0) + b.house.chipTold(5), 0);
    b.end();
  }

  private static void chipNone() {
    Bench b = new Bench("promise 21: 0, it can not be made, and there is none then, its rows are empty", 4, 0);
    b.good(": a 5 >R 9 0 DO 1 LOOP R> ; : bad HERE ;");
    b.house.chip(0, 172);
    b.house.chipPut(7);
    b.house.chipGo(5);
    b.due("0", b.house.chip(0, 173), 0);
    for (int i = 0; i < 8; i++) b.due("told " + i, b.house.chipTold(i), 0);
    b.due("no cell", b.house.chipCell(0), 0);
    b.due("no word", b.house.chipWord(0), NONE);
    b.due("no byte", b.house.chipByte(0), NONE);
    b.due("no step", b.house.chipGo(1), STATE);
    b.due("no cell more", b.house.chipPut(1), STATE);
    b.due("made again", b.house.chip(0, 172), 13);
    b.due("empty", b.house.chipTold(1) + b.house.chipTold(2) + b.house.chipTold(3) + b.house.chipTold(4), 0);
    b.end();
  }

  private static void chipWords() {
    Bench b = new Bench("promise 22: a chip word, NONE", 4, 0);
    for (int i : new int[] {0, -1, 1, 1999, LOWEST, HIGHEST}) b.due("no chip, " + i, b.house.chipWord(i), NONE);
    b.good(": a DUP ;");
    b.house.chip(0, 172);
    b.due("0", b.house.chipWord(0), 0);
    b.due("1", b.house.chipWord(1), 150);
    for (int i : new int[] {2, -1, 1999, 2000, LOWEST, HIGHEST}) b.due("none at " + i, b.house.chipWord(i), NONE);
    b.house.chipGo(5);
    b.due("at FAULT, too", b.house.chipWord(1), 150);
    b.end();
  }

  private static void chipPuts() {
    Bench b = new Bench("promise 23: a cell, cut to its cells; STATE, FULL");
    for (int cell = 2; cell <= 4; cell++) {
      Bench one = new Bench("", cell, 0);
      b.due("no chip", one.house.chipPut(1), STATE);
      one.good(": a BEGIN AGAIN ; : e ; : f DROP DROP ;");
      one.house.chip(0, 172);
      int n = 0;
      for (int v : new int[] {0, 1, -1, 32767, 32768, 65535, 65536, 8388607, 8388608, 16777216, HIGHEST, LOWEST}) {
        b.due("how many", one.house.chipPut(v), ++n);
        int spare = 32 - 8 * cell;
        b.due("cut", one.house.chipCell(0), (v << spare) >> spare);
      }
      while (n < 64) b.due("how many", one.house.chipPut(n), ++n);
      one.refused("FULL", () -> one.house.chipPut(1), FULL);
      one.house.chip(0, 173);
      one.house.chipGo(1);
      one.refused("it has ENDED", () -> one.house.chipPut(1), STATE);
      one.house.chip(0, 174);
      one.house.chipPut(1);
      one.house.chipGo(9);
      one.refused("at FAULT", () -> one.house.chipPut(1), STATE);
    }
    b.end();
  }

  private static void chipGoes() {
    Bench b = new Bench("promise 24: 1 .. 20000 words, 1 it goes on, 0 it has ENDED, -2 FAULT; BAD, STATE", 4, 0);
    for (int i : new int[] {0, -1, 20001, LOWEST, HIGHEST}) b.due("steps " + i, b.house.chipGo(i), BAD);
    b.due("none", b.house.chipGo(1), STATE);
    b.good(": a BEGIN AGAIN ; : e 1 ; : f 1 + ;");
    b.house.chip(0, 172);
    for (int i : new int[] {0, -1, 20001, LOWEST, HIGHEST}) b.refused("steps " + i, () -> b.house.chipGo(i), BAD);
    b.due("1", b.house.chipGo(1), 1);
    b.due("20000", b.house.chipGo(20000), 1);
    b.due("done", b.house.chipTold(5), 20001);
    b.house.chip(0, 173);
    b.due("goes on", b.house.chipGo(1), 1);
    b.due("ENDED", b.house.chipGo(20000), 0);
    b.refused("ENDED", () -> b.house.chipGo(20000), 0);
    b.refused("BAD ahead of that", () -> b.house.chipGo(0), BAD);
    b.house.chip(0, 174);
    b.due("goes on", b.house.chipGo(1), 1);
    b.due("FAULT", b.house.chipGo(1), -2);
    b.refused("FAULT", () -> b.house.chipGo(1), -2);
    b.end();
  }

  private static void chipTold() {
    Bench b = new Bench("promise 25: place, DATA, RETURN, LOOPS, the FAULT'S code, words done, chip words, FRAMES; BAD", 4, 0);
    for (int i : new int[] {-1, 8, LOWEST, HIGHEST}) b.due("what " + i, b.house.chipTold(i), BAD);
    for (int i = 0; i < 8; i++) b.due("no chip " + i, b.house.chipTold(i), 0);
    b.good(": w 1 2 >R 9 0 DO [ ] DROP DROP LOOP R> ; : x 7 w ;");
    b.house.chip(0, b.find("x"));
    int[] first = {0, 0, 0, 0, 0, 0, 19, 0};
    for (int i = 0; i < 8; i++) b.due("as it is made " + i, b.house.chipTold(i), first[i]);
    b.house.chipGo(2 + 6);
    int[] then = {14, 2, 1, 1, 0, 8, 19, 1};
    for (int i = 0; i < 8; i++) b.due("in it " + i, b.house.chipTold(i), then[i]);
    b.due("FAULT", b.house.chipGo(99), -2);
    int[] fault = {14, 0, 1, 1, -4, 12, 19, 1};
    for (int i = 0; i < 8; i++) b.due("at FAULT " + i, b.house.chipTold(i), fault[i]);
    for (int i : new int[] {-1, 8, LOWEST, HIGHEST}) b.due("what " + i, b.house.chipTold(i), BAD);
    b.end();
  }

  private static void chipCells() {
    Bench b = new Bench("promise 26: cell i of the chip's DATA, from the top; 0, there is none", 4, 0);
    for (int i : new int[] {0, -1, 63, LOWEST, HIGHEST}) b.due("no chip " + i, b.house.chipCell(i), 0);
    b.good(": a ;");
    b.house.chip(0, 172);
    b.due("none", b.house.chipCell(0), 0);
    for (int i = 0; i < 64; i++) b.house.chipPut(i + 100);
    b.due("the top", b.house.chipCell(0), 163);
    b.due("the lowest", b.house.chipCell(63), 100);
    for (int i : new int[] {64, -1, LOWEST, HIGHEST}) b.due("none at " + i, b.house.chipCell(i), 0);
    b.house.chipGo(1);
    b.due("ENDED", b.house.chipCell(63), 100);
    b.end();
  }

  private static void chipBytes() {
    Bench b = new Bench("promise 27: a byte of the chip's SPACE; NONE, no such address, or no chip", 4, 0);
    for (int i : new int[] {0, -1, 4095, LOWEST, HIGHEST}) b.due("no chip " + i, b.house.chipByte(i), NONE);
    b.good("255 4095 C! : a ;");
    b.house.chip(0, 172);
    b.due("the first", b.house.chipByte(0), 10);
    b.due("the last", b.house.chipByte(4095), 255);
    for (int i : new int[] {-1, 4096, LOWEST, HIGHEST}) b.due("none at " + i, b.house.chipByte(i), NONE);
    b.house.chipGo(1);
    b.due("ENDED", b.house.chipByte(4095), 255);
    b.end();
  }

  private static void puts() {
    Bench b = new Bench("promise 28: BLOCKS are blanks at first; from a byte on, all of it in the BLOCK", 4, 0);
    for (int i = 0; i < 8; i++) b.data(i + " LOAD", "");
    int[][] good = {{0, 0, 1}, {7, 511, 1}, {3, 0, 512}, {4, 511, 1}, {5, 510, 2}, {0, 512, 0}, {0, 0, 0}};
    for (int[] g : good) {
      b.type("5".repeat(g[2]));
      b.due(g[2] + " at " + g[1], b.house.put(0, g[0], g[1]), g[2]);
    }
    int[][] bad = {{0, 512, 1}, {0, 511, 2}, {0, 1, 512}, {0, 0, 513}, {0, -1, 1}, {0, -1, 0}, {0, 513, 0}, {0, 0, 1024}, {8, 0, 1}, {-1, 0, 1}, {8, 512, 0},
      {0, LOWEST, 1}, {0, HIGHEST, 1}, {LOWEST, 0, 1}, {HIGHEST, 0, 1}, {0, HIGHEST, 0}};
    b.house.again(0, 0);
    b.house.keep(0, 0);
    b.due("a twin", b.house.again(1, 0), 1);
    for (int[] d : bad) {
      b.type("6".repeat(d[2]));
      b.refused(d[2] + " at " + d[1] + " of " + d[0], () -> b.house.put(0, d[0], d[1]), BAD);
      b.due("the TAPE", b.house.wipe(), 0);
      b.due("no BLOCK is another one", b.house.same(0, 1), true);
    }
    b.end();
  }

  private static void putsTape() {
    Bench b = new Bench("promise 28: the TAPE is empty then; other bytes of the BLOCK stay", 4, 0);
    for (int s : new int[] {-1, 1, LOWEST, HIGHEST}) {
      b.type("6");
      b.refused("system " + s, () -> b.house.put(s, 0, 0), BAD);
      b.due("the TAPE", b.house.wipe(), 0);
    }
    b.type("1 2 3 4");
    b.due("7", b.house.put(0, 1, 0), 7);
    b.due("the TAPE", b.house.wipe(), 0);
    b.type("9");
    b.house.put(0, 1, 2);
    b.data("1 LOAD", "1 9 3 4");
    b.type("7 8 9");
    b.house.put(0, 1, 511 - 4);
    b.data("0 LOAD 1 LOAD 2 LOAD", "1 9 3 4 7 8 9");
    b.house.system(4, 0);
    b.due("of another system none", b.run(1, "1 LOAD", 20) + b.house.depth(1, 0, 0), 0);
    b.end();
  }

  private static void keeps() {
    Bench b = new Bench("promise 29: images 0, 1; BAD", 4, 0);
    for (int i : new int[] {-1, 2, LOWEST, HIGHEST}) b.refused("image " + i, () -> b.house.keep(0, i), BAD);
    for (int i : new int[] {-1, 1, LOWEST, HIGHEST}) b.refused("system " + i, () -> b.house.keep(i, 0), BAD);
    b.due("none was kept", b.house.again(0, 0) * 10 + b.house.again(0, 1), -11);
    b.good("5");
    b.refused("1", () -> b.house.keep(0, 1), 1);
    b.due("the other one is none", b.house.again(0, 0), NONE);
    b.good("6");
    b.due("1", b.house.keep(0, 0), 1);
    b.due("as it was", b.house.again(0, 1), 0);
    b.due("as it was", b.data(0, 0), "5");
    b.due("kept over", b.house.keep(0, 0), 1);
    b.house.again(1, 0);
    b.due("as it is now", b.data(1, 0), "5");
    b.type("ab");
    b.house.keep(0, 0);
    b.house.again(0, 0);
    b.due("the TAPE is none of it", b.house.wipe(), 2);
    b.end();
  }

  private static void agains() {
    Bench b = new Bench("promise 30: BAD; NONE, there is no such image; FULL; a new one with as many as there are");
    b.due("no system yet, no image", b.house.again(0, 0), NONE);
    b.due("BAD ahead of NONE", b.house.again(1, 0), BAD);
    b.house.system(4, 0);
    b.good("5");
    b.house.keep(0, 1);
    for (int i : new int[] {-1, 2, LOWEST, HIGHEST}) b.refused("image " + i, () -> b.house.again(0, i), BAD);
    for (int i : new int[] {-1, 2, 3, LOWEST, HIGHEST}) b.refused("system " + i, () -> b.house.again(i, 1), BAD);
    b.refused("no such image", () -> b.house.again(0, 0), NONE);
    b.refused("no such image", () -> b.house.again(1, 0), NONE);
    b.due("1", b.house.again(1, 1), 1);
    b.due("2", b.house.again(2, 1), 2);
    b.refused("3 are there", () -> b.house.again(3, 1), FULL);
    b.refused("NONE ahead of FULL", () -> b.house.again(3, 0), NONE);
    b.refused("4", () -> b.house.again(4, 1), BAD);
    b.refused("image 2", () -> b.house.again(3, 2), BAD);
    b.due("over one", b.house.again(1, 1), 1);
    b.due("system, too, is FULL", b.house.system(2, 0), FULL);
    b.end();
  }

  private static void againOver() {
    Bench b = new Bench("promise 30: a system becomes what an IMAGE is", 2, 5);
    b.house.system(4, 2);
    b.run(1, ": a 1 2 ; 65 EMIT 7 CONSTANT k 9 BASE ! foo", 99);
    b.good("5 VARIABLE v");
    b.house.keep(0, 0);
    b.due("1", b.house.again(1, 0), 1);
    b.due("told", b.told(1), b.told(0));
    b.due("the same", b.house.same(0, 1), true);
    b.run(1, "DROP", 9);
    b.due("its own", b.data(0, 0), "5");
    b.due("the image, too", b.house.again(1, 0) + b.house.cell(1, 0, 0, 0), 6);
    b.end();
  }

  private static void sameBad() {
    Bench b = new Bench("promise 31: BAD, false", 4, 0);
    b.due("itself", b.house.same(0, 0), true);
    for (int i : new int[] {-1, 1, 3, LOWEST, HIGHEST}) {
      b.due("0 and " + i, b.house.same(0, i), false);
      b.due(i + " and 0", b.house.same(i, 0), false);
      b.due(i + " and itself", b.house.same(i, i), false);
    }
    b.end();
  }

  /** Whether two systems that were alike are the same after a text each; and after both had the other one's place. */
  private static void same(Bench b, String before, String one, String other, boolean due) {
    // Else >IN alone would tell them apart.
    b.due("bytes of " + one + " / " + other, one.length(), other.length());
    for (int turn = 0; turn < 2; turn++) {
      Bench two = new Bench("", 4, 0);
      two.run(0, before, 500);
      two.house.keep(0, 0);
      two.house.again(1, 0);
      b.due("alike after " + before, two.house.same(0, 1), true);
      two.run(turn, one, 500);
      two.run(1 - turn, other, 500);
      b.due("after " + before + "; " + one + " / " + other, two.house.same(0, 1), due);
    }
  }

  private static void sameSystems() {
    Bench b = new Bench("promise 31: cells, choices, HERE, SPACE, lists, order, the list for new words");
    for (int cell = 2; cell <= 4; cell++) {
      for (int choices = 0; choices < 8; choices++) {
        Bench two = new Bench("", cell, choices);
        two.house.system(cell, choices);
        two.house.system(cell == 4 ? 2 : cell + 1, choices);
        b.due("twins", two.house.same(0, 1), true);
        b.due("cells", two.house.same(0, 2), false);
        two = new Bench("", cell, choices);
        two.house.system(cell, choices ^ 1);
        two.house.system(cell, choices ^ 2);
        b.due("floored", two.house.same(0, 1), false);
        b.due("by case", two.house.same(0, 2), false);
      }
    }
    Bench first = new Bench("", 4, 0);
    first.house.system(4, 4);
    first.run(0, "0 0 ! ", 9);
    first.run(1, "0 0 ! ", 9);
    first.run(0, "0 4 !", 9);
    b.due("highest first", first.house.same(0, 1), false);
    same(b, "", "1 ALLOT", "0 ALLOT", false);
    same(b, "", "1 ALLOT", "1 ALLOT", true);
    same(b, "", "7 4095 C!", "8 4095 C!", false);
    same(b, "", "7 4095 C!", "7 4094 C!", false);
    same(b, "", "WORDLIST DROP", "1        DROP", false);
    same(b, "WORDLIST DROP", "1 >ORDER", "2 >ORDER", false);
    same(b, "WORDLIST DROP", "1 >ORDER", "1 DROP  ", false);
    same(b, "WORDLIST DROP", "2 >ORDER DEFINITIONS", "2 >ORDER            ", false);
    same(b, "WORDLIST DROP", "2 >ORDER DEFINITIONS ONLY", "ONLY                     ", false);
    same(b, "WORDLIST DROP : o PREVIOUS >ORDER ;", "1 o", "2 o", false);
    same(b, "WORDLIST DROP : o PREVIOUS >ORDER ;", "1 o", "1 o", true);
    b.end();
  }

  private static void sameWords() {
    Bench b = new Bench("promise 31: words (all that word() and name() tell), items, the latest word");
    same(b, "", ": a ;", ": a ;", true);
    same(b, "", ": a ;", ": A ;", false);
    same(b, "", ": a ;", ": b ;", false);
    same(b, "", "CREATE aa", "CREATE a ", false);
    same(b, "", "DEFER a", "       ", false);
    same(b, "", "CREATE a", "DEFER  a", false);
    same(b, "", "5 CONSTANT a", "6 CONSTANT a", false);
    same(b, "", "5 CONSTANT a", "5 VALUE    a", false);
    same(b, ": a ;", "IMMEDIATE", "         ", false);
    same(b, "DEFER a", "' DUP  IS a", "' DROP IS a", false);
    same(b, "5 VALUE a", "6 TO a", "5 TO a", false);
    same(b, "CREATE a : x DOES> ; : y 1 ; CREATE c", "x", " ", false);
    same(b, "CREATE a : x DOES> DOES> ; CREATE c", "x c DROP", "x 1 DROP", false);
    same(b, "", ": a 1 ;", ": a 2 ;", false);
    same(b, "", ": a 1 ;", ": a 0 ;", false);
    same(b, "", ": a DUP ;", ": a OR  ;", false);
    same(b, "", ":NONAME ; DROP", ": a ;         ", false);
    same(b, "WORDLIST >ORDER", "DEFINITIONS : a ; ONLY DEFINITIONS", ": a ; ONLY DEFINITIONS            ", false);
    same(b, "", ": a", ": a", true);
    same(b, "MARKER m CREATE x", ": a ;", ": a ;", true);
    leaned(b);
    b.end();
  }

  private static void leaned(Bench b) {
    Bench two = new Bench("", 4, 0);
    two.run(": a 1 2 + ;");
    two.house.keep(0, 0);
    two.house.again(1, 0);
    two.house.lean(1, 172);
    b.due("leaner", two.house.same(0, 1), false);
    two.house.lean(0, 172);
    b.due("both leaner", two.house.same(0, 1), true);
  }

  private static void sameMaking() {
    Bench b = new Bench("promise 31: STATE, how many pairs of CONTROL and definitions under way");
    same(b, ": a", "[", " ", false);
    same(b, ": a BEGIN", "BEGIN", "     ", false);
    same(b, ": a", "BEGIN", "CASE ", true);
    same(b, ": a BEGIN", "UNTIL BEGIN", "UNTIL  CASE", true);
    same(b, "", ": a [: ;] [", ": a [: ;] [", true);
    same(b, "", ": a [: 1", ": a [: 1", true);
    same(b, "", ": a [: 1 [", ": a [: 1  ", false);
    b.end();
  }

  private static void sameTasks() {
    Bench b = new Bench("promise 31: the task at hand; of each task its state, code, rows, and where it goes on");
    same(b, "", "1 2", "2 1", false);
    same(b, "", "1 2 2DROP", "2 1 2DROP", true);
    same(b, "", "1", "2", false);
    same(b, "", "1 0", "1  ", false);
    same(b, ": w ;", "' w TASK", "' w DUP ", false);
    same(b, ": w ; : v ;", "' w TASK", "' v TASK", false);
    same(b, ": w THROW ;", "' w TASK PAUSE", "' w TASK PAUSE", true);
    same(b, ": w 5 THROW ; : v 6 THROW ;", "' w TASK PAUSE", "' v TASK PAUSE", false);
    same(b, ": w 5 THROW ; : v ;", "' w TASK PAUSE", "' v TASK PAUSE", false);
    same(b, ": w 5 THROW ; : v ; : z ;", "' w TASK PAUSE ' z TASK 2DROP", "' v TASK PAUSE ' z TASK 2DROP", true);
    loopsThatAreOver(b);
    same(b, ": w PAUSE 1 ; : v PAUSE 1 ;", "' w TASK PAUSE", "' v TASK PAUSE", false);
    same(b, ": w PAUSE PAUSE ; ' w TASK PAUSE", "PAUSE", "     ", false);
    same(b, ": w >R PAUSE R> ; : x 5 w ; : y 5 w ;", "' x TASK PAUSE", "' y TASK PAUSE", false);
    same(b, "VARIABLE q : w q @ >R 0 q ! PAUSE R> ;", "5 q ! ' w TASK PAUSE", "6 q ! ' w TASK PAUSE", false);
    same(b, "VARIABLE q : w q @ {: x :} 0 q ! PAUSE x ;", "5 q ! ' w TASK PAUSE", "6 q ! ' w TASK PAUSE", false);
    same(b, "VARIABLE q : w 20 q @ DO 0 q ! PAUSE LOOP ;", "5 q ! ' w TASK PAUSE", "6 q ! ' w TASK PAUSE", false);
    same(b, "VARIABLE q : w q @ 0 DO 0 q ! PAUSE LOOP ;", "5 q ! ' w TASK PAUSE", "6 q ! ' w TASK PAUSE", false);
    same(b, "VARIABLE q : w q @ 0 q ! PAUSE ;", "5 q ! ' w TASK PAUSE", "6 q ! ' w TASK PAUSE", false);
    same(b, ": w RECEIVE DROP ; ' w TASK PAUSE", "5 1 SEND", "5 -1 NIP", false);
    same(b, ": w BEGIN PAUSE AGAIN ; ' w TASK DROP : z BEGIN AGAIN ; ' z TASK DROP", "PAUSE", "PAUSE", true);
    b.end();
  }

  /** A loop within the one that goes on has been done with other limits; it is over, or not. */
  private static void loopsThatAreOver(Bench b) {
    for (int turn = 0; turn < 2; turn++) {
      Bench two = new Bench("", 4, 0);
      two.run("VARIABLE q : x 9 8 DO BEGIN AGAIN LOOP ; : over 4 0 DO q @ 2 + q @ DO LOOP LOOP 0 q ! x ; : not q @ 2 + q @ 0 q ! DO x LOOP ;");
      two.house.keep(0, 0);
      two.house.again(1, 0);
      two.run(0, "5 q !", 99);
      two.run(1, "6 q !", 99);
      String word = turn == 0 ? "over" : "not";
      two.run(0, word, 500);
      two.run(1, word, 500);
      b.due("it goes on", two.house.depth(0, 0, 2), turn + 1);
      b.due("loops of " + word, two.house.same(0, 1), turn == 0);
    }
  }

  private static void sameFrames() {
    Bench b = new Bench("promise 31: frames, of CATCH with the depth of DATA, the text and >IN then");
    same(b, ": z BEGIN AGAIN ; : y z ; : x z ;", "y", "x", false);
    same(b, ": z BEGIN AGAIN ; : y z ; : x z ;", "y", "y", true);
    same(b, ": z BEGIN AGAIN ;", "' z CATCH", "' z CATCH", true);
    same(b, ": z BEGIN AGAIN ;", "5 ' z CATCH", "' z CATCH 5", false);
    same(b, ": z 10 >IN ! BEGIN AGAIN ;", "' z CATCH ", "' z  CATCH", false);
    same(b, "VARIABLE q : z q ! 9 BEGIN AGAIN ;", "5 7 ' z CATCH", "5 7 ' z CATCH", true);
    same(b, ": z DROP BEGIN AGAIN ;", "5 ' z CATCH", "5 ' z CATCH", true);
    same(b, "VARIABLE q : z q @ 0= IF DROP THEN 0 q ! BEGIN AGAIN ;", "1 q ! 5 ' z CATCH  ", "0 q ! 5 5 ' z CATCH", false);
    same(b, ": z S\" \" EVALUATE BEGIN AGAIN ; : y BEGIN AGAIN ;", "z", "z", true);
    same(b, ": z 6 >R BEGIN AGAIN ;", "z", "z", true);
    b.end();
  }

  /** Both systems stand in the midst of a text. */
  private static void midst(Bench b, String before, String one, int steps, String other, int otherSteps, boolean due) {
    Bench two = new Bench("", 4, 0);
    two.run(0, before, 500);
    two.house.keep(0, 0);
    two.house.again(1, 0);
    two.run(0, one, steps);
    two.run(1, other, otherSteps);
    b.due("in the midst of " + one + " / " + other, two.house.same(0, 1), due);
    b.due("in the midst of " + other + " / " + one, two.house.same(1, 0), due);
  }

  private static void sameTexts() {
    Bench b = new Bench("promise 31: texts, kinds, places but of those without bytes, lengths, the main one's bytes, >IN of those that wait");
    midst(b, "", "1 2 3", 1, "1 2 3", 1, true);
    midst(b, "", "1 2 3", 1, "1 2 4", 1, false);
    midst(b, "", "1 2 3", 1, "1 2 3 ", 1, false);
    midst(b, "", "1", 1, "1", 2, false);
    String all = "1000 8 49 FILL 2000 8 49 FILL";
    midst(b, all, "1000 2 EVALUATE", 3, "1000 2 EVALUATE", 3, true);
    midst(b, all, "1000 2 EVALUATE", 3, "1000 3 EVALUATE", 3, false);
    midst(b, all + " 1000 CONSTANT a 2000 CONSTANT c 2 CONSTANT n : e n EVALUATE ;", "a n EVALUATE 1 DROP", 3, "c n EVALUATE 1 DROP", 3, false);
    midst(b, all + " : e 2 EVALUATE ; 1000 VALUE a", "a e", 4, "a e", 4, true);
    midst(b, "VARIABLE p : e p @ 0 p ! SWAP EVALUATE ; : k p ! ;", "1000 p ! 3 e     ", 8, "2000 p ! 3 e     ", 8, false);
    midst(b, "VARIABLE p : e p @ 0 p ! SWAP EVALUATE ;", "1000 p ! 0 e     ", 11, "2000 p ! 0 e     ", 11, false);
    noBytes(b);
    waiting(b);
    kindsAndLengths(b);
    Bench two = new Bench("", 4, 0);
    two.house.system(4, 0);
    two.run(0, "1 LOAD", 2);
    two.run(1, "2 LOAD", 2);
    b.due("another BLOCK", two.house.same(0, 1), false);
    b.end();
  }

  /** EVALUATE of no bytes at two addresses, each in a task's turn so that the main texts are alike. */
  private static void noBytes(Bench b) {
    for (int n = 0; n < 2; n++) {
      Bench two = new Bench("", 4, 0);
      two.run("VARIABLE p VARIABLE n : e p @ n @ 0 p ! EVALUATE ;");
      two.house.keep(0, 0);
      two.house.again(1, 0);
      two.run(0, "1000 p ! " + n + " n !", 99);
      two.run(1, "2000 p ! " + n + " n !", 99);
      two.run(0, "e", 8);
      two.run(1, "e", 8);
      b.due("not yet", two.house.count(0, 15), 0);
      two.house.go(0, 1);
      two.house.go(1, 1);
      b.due("nested", two.house.count(0, 15), 1);
      b.due("a text of " + n + " bytes at 1000 / at 2000", two.house.same(0, 1), n == 0);
    }
  }

  /** Texts of one place that differ by their length alone, or by their kind alone. */
  private static void kindsAndLengths(Bench b) {
    // DATA and what v holds ahead of the text, of each system; what the text is; how many steps are done.
    String[][] due = {{"1000 2", "1000 3", "EVALUATE"}, {"1000 2", "1000 2", "EVALUATE"}, {"1 512 ' EVALUATE v !", "1     ' LOAD     v !", "x"},
      {"1     ' LOAD     v !", "1     ' LOAD     v !", "x"}};
    for (int i = 0; i < due.length; i++) {
      Bench two = new Bench("", 4, 0);
      two.run("VARIABLE v : x v @ 0 v ! EXECUTE ;");
      two.house.keep(0, 0);
      two.house.again(1, 0);
      for (int s = 0; s < 2; s++) {
        two.run(s, due[i][s], 99);
        two.run(s, due[i][2], i < 2 ? 1 : 7);
      }
      b.due("nested", two.house.count(0, 15) * 10 + two.house.count(1, 15), 11);
      b.due("DATA is alike", two.data(0, 0), two.data(1, 0));
      b.due(due[i][0] + " / " + due[i][1], two.house.same(0, 1), i % 2 == 1);
    }
    Bench over = new Bench("", 4, 0);
    over.house.system(4, 0);
    over.run(0, "1000 2 EVALUATE", 99);
    over.run(1, "2000 3 EVALUATE", 99);
    over.run(0, "1 2", 1);
    over.run(1, "1 2", 1);
    b.due("nested texts that are over", over.house.same(0, 1), true);
  }

  /** The >IN of the main text that waits, which is elsewhere in the same bytes. */
  private static void waiting(Bench b) {
    for (int at = 20; at < 22; at++) {
      Bench two = new Bench("", 4, 0);
      two.run("VARIABLE p VARIABLE q : e p @ 0 p ! q @ 0 q ! >IN ! 1000 SWAP EVALUATE ;");
      two.house.keep(0, 0);
      two.house.again(1, 0);
      two.run(0, "3 p ! 20 q !", 99);
      two.run(1, "3 p ! " + at + " q !", 99);
      two.run(0, "e                     ", 16);
      two.run(1, "e                     ", 16);
      b.due("nested", two.house.count(0, 15), 1);
      b.due(">IN of the one that waits", two.house.same(0, 1), at == 20);
    }
  }

  private static void sameNotTold() {
    Bench b = new Bench("promise 31: what was put out, steps, the tester, what was thrown, the number's place are none of it");
    same(b, "", "65 EMIT", "66 EMIT", true);
    same(b, "", "65 EMIT", "66 DROP", true);
    same(b, "", "T{ }T", "     ", true);
    same(b, "", "5 THROW", "6 THROW", true);
    same(b, "", "<#", "  ", true);
    same(b, ": w 1 0 DO LOOP ; : v 9 0 DO LOOP ;", "w", "v", true);
    Bench two = new Bench("", 4, 0);
    two.house.system(4, 0);
    for (int block = 0; block < 8; block++) {
      for (int at : new int[] {0, 511}) {
        two.type("x");
        two.house.put(0, block, at);
        b.due("BLOCK " + block + " byte " + at, two.house.same(0, 1), false);
        two.type("x");
        two.house.put(1, block, at);
        b.due("BLOCK " + block + " byte " + at, two.house.same(0, 1), true);
      }
    }
    b.end();
  }
}
