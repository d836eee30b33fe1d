/** The promises 1 to 31 in their order: ordinary calls, edges, wrong numbers. */
public final class PromisesTest {
  private static final int NONE = -1, BAD = -2, STATE = -3, FULL = -4;

  public static void main(String[] args) {
    newObject();
    type();
    wipe();
    system();
    evaluate();
    go();
    out();
    count();
    thrown();
    depth();
    cell();
    task();
    fetch();
    find();
    word();
    name();
    item();
    effect();
    effectOf();
    lean();
    chip();
    chipWord();
    chipPut();
    chipGo();
    chipTold();
    chipCell();
    chipByte();
    put();
    keep();
    again();
    same();
    Bench.exit();
  }

  private static void newObject() {
    Bench b = new Bench("promise 1, a new object");
    b.due("wipe", b.house.wipe(), 0);
    b.due("count", b.house.count(0, 0), BAD);
    b.due("again", b.house.again(0, 0), NONE);
    b.due("again", b.house.again(0, 1), NONE);
    b.due("chipTold", b.house.chipTold(6), 0);
    b.due("chipWord", b.house.chipWord(0), NONE);
    b.due("chipByte", b.house.chipByte(0), NONE);
    b.due("constants", ForthHouse.NONE * 1000 + ForthHouse.BAD * 100 + ForthHouse.STATE * 10 + ForthHouse.FULL, -1234);
    b.end();
  }

  private static void type() {
    Bench b = new Bench("promise 2, type", 4, 0);
    b.due("n 0", b.house.type(65, 0), BAD);
    b.due("n 9", b.house.type(65, 9), BAD);
    b.due("n -1", b.house.type(65, -1), BAD);
    b.due("three bytes", b.house.type(0x414243442B2035L, 3), 3);
    b.due("two more", b.house.type(0x2037L, 2), 5);
    b.due("evaluate", b.house.evaluate(0, 100), -2);
    b.due("+7 is no word, 5 is one", b.house.thrown(0, 1), 5);
    for (int i = 0; i < 127; i++) b.house.type(0, 8);
    b.due("1024 bytes", b.house.type(0, 8), 1024);
    b.due("1025", b.house.type(0, 1), FULL);
    b.due("wipe", b.house.wipe(), 1024);
    for (int i = 0; i < 127; i++) b.house.type(0, 8);
    b.house.type(0, 1);
    b.due("1017 and 8", b.house.type(0, 8), FULL);
    b.due("1017 and 7", b.house.type(0, 7), 1024);
    b.house.wipe();
    b.due("BAD ahead of FULL", b.house.type(0, 0), BAD);
    b.house.type(-1L, 8);
    b.due("bytes of 255", b.house.put(0, 0, 0), 8);
    b.end();
  }

  private static void wipe() {
    Bench b = new Bench("promise 3, wipe", 4, 0);
    b.type("abc");
    b.due("three", b.house.wipe(), 3);
    b.due("none", b.house.wipe(), 0);
    b.good("");
    b.end();
  }

  private static void system() {
    Bench b = new Bench("promise 4, system");
    b.due("cells of 1", b.house.system(1, 0), BAD);
    b.due("cells of 5", b.house.system(5, 0), BAD);
    b.due("choices 8", b.house.system(2, 8), BAD);
    b.due("choices -1", b.house.system(2, -1), BAD);
    b.due("0", b.house.system(2, 0), 0);
    b.due("1", b.house.system(3, 7), 1);
    b.due("2", b.house.system(4, 1), 2);
    b.due("FULL", b.house.system(4, 0), FULL);
    b.due("BAD ahead of FULL", b.house.system(4, 8), BAD);
    b.due("BASE of 0", b.house.fetch(0, 0, 0), 10);
    b.due("BASE of 1, the highest byte first", b.house.fetch(1, 2, 1), 10);
    b.due("words", b.house.count(1, 1), 172);
    b.due("HERE", b.house.count(2, 0), 256);
    b.due("2 bytes go round", b.run(0, "32768 0<", 99) + b.house.cell(0, 0, 0, 0), -1);
    b.due("3 bytes go round", b.run(1, "32768 0<", 99) + b.house.cell(1, 0, 0, 0), 0);
    b.due("floored", b.run(1, "-7 2 /", 99) + b.house.cell(1, 0, 0, 0), -4);
    b.due("not floored", b.run(0, "-7 2 /", 99) + b.house.cell(0, 0, 0, 0), -3);
    b.due("case", b.run(0, "1 dup", 99), 0);
    b.due("differs by case", b.run(1, "1 dup", 99), -2);
    b.end();
    systemBegins();
  }

  /** Whatever was done and kept before, a system begins as part 1 says. */
  private static void systemBegins() {
    Bench b = new Bench("promise 4, how a system begins");
    for (int kind = 0; kind < 24; kind++) {
      int cell = 2 + kind / 8;
      int choices = kind % 8;
      Bench used = new Bench("", 4, kind % 3);
      used.run("1 2 : a WORDLIST >ORDER DEFINITIONS 5 ; a VARIABLE c -1 c ! 9 BASE ! .\" x\" 1 THROW");
      used.house.keep(0, 0);
      used.house.again(1, 0);
      int made = used.house.system(cell, choices);
      Bench fresh = new Bench("", cell, choices);
      for (int what = 0; what <= 15; what++) {
        b.due("count " + what, used.house.count(made, what), fresh.house.count(0, what));
      }
      for (int at = 0; at < 4096; at++) {
        int base = (choices & 4) != 0 ? cell - 1 : 0;
        b.due("byte " + at, used.house.fetch(made, at, 1), at == base ? 10 : 0);
      }
      b.due("out", used.house.out(made, 0), NONE);
      b.due("thrown", used.house.thrown(made, 0), 0);
      b.due("depth", used.house.depth(made, 0, 0), 0);
      b.due("task 0", used.house.task(made, 0), 1);
      b.due("task 1", used.house.task(made, 1), 0);
      b.due("its own", used.house.same(0, made), false);
    }
    b.end();
  }

  private static void evaluate() {
    Bench b = new Bench("promise 5, evaluate", 4, 0);
    b.type("1");
    b.due("no such system", b.house.evaluate(1, 10), BAD);
    b.due("the TAPE is empty", b.house.wipe(), 0);
    b.type("1");
    b.due("no steps", b.house.evaluate(0, 0), BAD);
    b.due("the TAPE is empty", b.house.wipe(), 0);
    b.due("too many", b.run(0, "1", 20001), BAD);
    b.due("as many as may be", b.run(0, "1", 20000), 0);
    b.due("one step", b.run(0, "2 3", 1), 1);
    b.type("4 5");
    b.due("not over", b.house.evaluate(0, 10), STATE);
    b.due("the TAPE is empty", b.house.wipe(), 0);
    b.due("BAD ahead of STATE", b.run(0, "", 0), BAD);
    b.due("the rest", b.house.go(0, 2), 0);
    b.due("DATA", b.data(0, 0), "1 2 3");
    b.due("thrown out", b.run("foo"), -2);
    b.due("over then", b.run(""), 0);
    b.due("steps of an empty text", b.run(0, "", 1), 0);
    b.end();
  }

  private static void go() {
    Bench b = new Bench("promise 6, go", 4, 0);
    b.due("no text", b.house.go(0, 10), STATE);
    b.due("no system", b.house.go(1, 10), BAD);
    b.due("BAD ahead of STATE", b.house.go(0, 0), BAD);
    b.due("BAD ahead of STATE", b.house.go(0, 20001), BAD);
    b.due("not yet", b.run(0, ": a 1 2 + ; a .", 4), 1);
    b.due("a begins: its items are to come", b.house.count(0, 4), 4);
    b.due("FRAMES", b.house.depth(0, 0, 4), 0);
    b.due("5: ;", b.house.go(0, 1), 1);
    b.due("6: a", b.house.go(0, 1), 1);
    b.due("FRAMES", b.house.depth(0, 0, 4), 1);
    b.due("1 2 + EXIT", b.house.go(0, 4), 1);
    b.due("FRAMES", b.house.depth(0, 0, 4), 0);
    b.due("DATA", b.data(0, 0), "3");
    b.due(".", b.house.go(0, 1), 1);
    b.due("the end", b.house.go(0, 1), 0);
    b.due("steps", b.house.count(0, 4), 12);
    b.due("no text again", b.house.go(0, 1), STATE);
    b.due("thrown out", b.run(0, "1 0 /", 2), 1);
    b.due("thrown out", b.house.go(0, 1), -2);
    b.due("steps", b.house.count(0, 4), 15);
    b.good(": z BEGIN AGAIN ;");
    b.due("for ever", b.run(0, "z", 20000), 1);
    b.due("for ever", b.house.go(0, 20000), 1);
    b.end();
  }

  private static void out() {
    Bench b = new Bench("promise 7, out", 4, 0);
    b.due("nothing", b.house.out(0, 0), NONE);
    b.good("65 EMIT 255 EMIT 256 EMIT");
    b.due("A", b.house.out(0, 0), 65);
    b.due("255", b.house.out(0, 1), 255);
    b.due("0", b.house.out(0, 2), 0);
    b.due("behind", b.house.out(0, 3), NONE);
    b.due("-1", b.house.out(0, -1), NONE);
    b.due("no system", b.house.out(1, 0), BAD);
    b.due("no system", b.house.out(-1, 0), BAD);
    b.good("2996 SPACES 66 EMIT 67 EMIT");
    b.due("2999", b.house.out(0, 2999), 66);
    b.due("3000 is not kept", b.house.out(0, 3000), NONE);
    b.due("but counted", b.house.count(0, 3), 3001);
    b.end();
  }

  private static void count() {
    Bench b = new Bench("promise 8, count", 4, 0);
    int[] first = {256, 172, 0, 0, 0, 0, 1, 1, 1, 0, 0, 0, 0, NONE, 0, 0};
    for (int i = 0; i < first.length; i++) b.due("at first " + i, b.house.count(0, i), first[i]);
    b.due("what 16", b.house.count(0, 16), BAD);
    b.due("what -1", b.house.count(0, -1), BAD);
    b.due("no system", b.house.count(1, 0), BAD);
    b.due("not over", b.run(0, ": a IF BEGIN 1 , [ S\" 1 WORDLIST >ORDER DEFINITIONS  5\" EVALUATE ", 11), 1);
    int[] later = {256, 173, 3, 0, 11, 0, 2, 2, 1, 0, 0, 0, 1, 172, 2, 1};
    for (int i = 0; i < later.length; i++) b.due("later " + i, b.house.count(0, i), later[i]);
    b.due("on", b.house.go(0, 1), 1);
    b.due("the list for new words", b.house.count(0, 8), 2);
    b.end();
  }

  private static void thrown() {
    Bench b = new Bench("promise 9, thrown", 2, 0);
    for (int i = 0; i < 3; i++) b.due("nothing yet", b.house.thrown(0, i), 0);
    b.due("what 3", b.house.thrown(0, 3), BAD);
    b.due("what -1", b.house.thrown(0, -1), BAD);
    b.due("no system", b.house.thrown(1, 0), BAD);
    b.thrown("  -5 THROW 7", -5);
    b.due(">IN", b.house.thrown(0, 1), 11);
    b.due("nested", b.house.thrown(0, 2), 0);
    b.thrown("S\" 1 foo 2\" EVALUATE", -13);
    b.due(">IN", b.house.thrown(0, 1), 6);
    b.due("nested", b.house.thrown(0, 2), 1);
    b.good(": a 40000 4 ! 3 THROW ; ' a CATCH DROP");
    b.due("caught ones are none", b.house.thrown(0, 0), -13);
    b.thrown("a", 3);
    b.due(">IN without sign", b.house.thrown(0, 1), 40000);
    b.end();
  }

  private static void depth() {
    Bench b = new Bench("promise 10, depth", 4, 0);
    b.due("which 6", b.house.depth(0, 0, 6), BAD);
    b.due("which -1", b.house.depth(0, 0, -1), BAD);
    b.due("task 4", b.house.depth(0, 4, 0), BAD);
    b.due("task -1", b.house.depth(0, -1, 0), BAD);
    b.due("no system", b.house.depth(1, 0, 0), BAD);
    for (int i = 0; i < 6; i++) b.due("never made", b.house.depth(0, 3, i), 0);
    b.good(": a {: x y | z :} 5 >R 10 0 DO 7 BEGIN AGAIN LOOP R> ; 8 0 SEND DROP 9 0 SEND DROP");
    b.due("into it", b.run(0, "1 2 3 a", 60), 1);
    int[] due = {2, 1, 1, 3, 1, 2};
    for (int i = 0; i < 6; i++) b.due("row " + i, b.house.depth(0, 0, i), due[i]);
    b.end();
  }

  private static void cell() {
    Bench b = new Bench("promise 11, cell", 4, 0);
    b.good(": a {: x y | z :} 5 >R 6 >R 10 0 DO 20 3 DO 7 BEGIN AGAIN LOOP LOOP ; 8 0 SEND DROP 9 0 SEND DROP");
    b.due("into it", b.run(0, "1 2 3 a", 60), 1);
    b.due("DATA", b.house.cell(0, 0, 0, 0) * 10 + b.house.cell(0, 0, 0, 1), 71);
    b.due("RETURN", b.house.cell(0, 0, 1, 0) * 10 + b.house.cell(0, 0, 1, 1), 65);
    b.due("INDEX", b.house.cell(0, 0, 2, 0), 3);
    b.due("limit", b.house.cell(0, 0, 2, 1), 20);
    b.due("the outer INDEX", b.house.cell(0, 0, 2, 2), 0);
    b.due("the outer limit", b.house.cell(0, 0, 2, 3), 10);
    b.due("no loop more", b.house.cell(0, 0, 2, 4), 0);
    b.due("LOCALS", b.house.cell(0, 0, 3, 0) * 100 + b.house.cell(0, 0, 3, 1) * 10 + b.house.cell(0, 0, 3, 2), 230);
    b.due("BOX", b.house.cell(0, 0, 5, 0) * 10 + b.house.cell(0, 0, 5, 1), 89);
    b.due("none", b.house.cell(0, 0, 0, 2) + b.house.cell(0, 0, 0, -1) + b.house.cell(0, 0, 1, 2)
        + b.house.cell(0, 0, 3, 3) + b.house.cell(0, 0, 5, 2) + b.house.cell(0, 0, 2, -1), 0);
    b.due("FRAMES", b.house.cell(0, 0, 4, 0), BAD);
    b.due("which 6", b.house.cell(0, 0, 6, 0), BAD);
    b.due("which -1", b.house.cell(0, 0, -1, 0), BAD);
    b.due("task 4", b.house.cell(0, 4, 0, 0), BAD);
    b.due("no system", b.house.cell(1, 0, 0, 0), BAD);
    b.end();
  }

  private static void task() {
    Bench b = new Bench("promise 12, task", 4, 0);
    b.due("task 0", b.house.task(0, 0), 1);
    b.due("task 1", b.house.task(0, 1), 0);
    b.due("task 4", b.house.task(0, 4), BAD);
    b.due("task -1", b.house.task(0, -1), BAD);
    b.due("no system", b.house.task(1, 0), BAD);
    b.good(": w RECEIVE DROP ; : t -9 THROW ; ' w TASK ' t TASK ' STOP TASK PAUSE");
    b.due("waits", b.house.task(0, 1), 2);
    b.due("thrown out", b.house.task(0, 2), 3 + 16 * 9);
    b.due("stopped", b.house.task(0, 3), 3);
    b.good("5 1 SEND");
    b.due("READY", b.house.task(0, 1), 1);
    b.good("PAUSE");
    b.due("done", b.house.task(0, 1), 3);
    b.good(": u 2147483647 THROW ; ' u TASK PAUSE");
    b.due("going round", b.house.task(0, 1), 3 - 16 * 2147483647);
    b.due("waiting", b.run(0, ": p BEGIN PAUSE AGAIN ; ' p TASK RECEIVE", 200), 1);
    b.due("task 0 waits", b.house.task(0, 0), 2);
    b.end();
  }

  private static void fetch() {
    Bench b = new Bench("promise 13, fetch", 3, 0);
    b.good("-2 1000 ! 255 4095 C!");
    b.due("cell", b.house.fetch(0, 1000, 0), -2);
    b.due("byte", b.house.fetch(0, 1000, 1), 254);
    b.due("the last byte", b.house.fetch(0, 4095, 1), 255);
    b.due("the last cell", b.house.fetch(0, 4093, 0), -65536);
    b.due("not all in SPACE", b.house.fetch(0, 4094, 0), BAD);
    b.due("4096", b.house.fetch(0, 4096, 1), BAD);
    b.due("-1", b.house.fetch(0, -1, 1), BAD);
    b.due("n 2", b.house.fetch(0, 0, 2), BAD);
    b.due("n -1", b.house.fetch(0, 0, -1), BAD);
    b.due("no system", b.house.fetch(1, 0, 0), BAD);
    b.due("great", b.house.fetch(0, 2147483647, 0), BAD);
    b.end();
  }

  private static void find() {
    Bench b = new Bench("promise 14, find", 4, 0);
    b.due("DUP", b.find("DUP"), 0);
    b.due("small", b.find("dup"), 0);
    b.due("}T", b.find("}t"), 171);
    b.due("none", b.find("foo"), NONE);
    b.due("empty", b.find(""), NONE);
    b.due("with a blank", b.find("DUP "), NONE);
    b.due("TIMES-OVER", b.find("*/"), 27);
    b.good(": DUP ; WORDLIST DUP >ORDER DEFINITIONS : foo ; : SWAP ;");
    b.due("the newest", b.find("DUP"), 172);
    b.due("the latest list first", b.find("SWAP"), 174);
    b.good("PREVIOUS");
    b.due("not in the order", b.find("foo"), NONE);
    b.due("SWAP", b.find("SWAP"), 2);
    b.good(": bar");
    b.due("HIDDEN", b.find("bar"), NONE);
    b.type("DUP");
    b.due("no system", b.house.find(1), BAD);
    b.due("the TAPE", b.house.wipe(), 0);
    b.house.system(4, 2);
    b.type("dup");
    b.due("by case", b.house.find(1), NONE);
    b.type("DUP");
    b.due("by case", b.house.find(1), 0);
    b.end();
  }

  private static void word() {
    Bench b = new Bench("promise 15, word", 4, 0);
    word(b, "DUP", 0, 0, 1, 0, 0, NONE, 3, 0);
    word(b, "IF", 0, 1, 1, 0, 0, NONE, 2, 0);
    b.good(": a 1 ; IMMEDIATE 7 CONSTANT c 8 VALUE v VARIABLE w CREATE d 5 , DEFER e DEFER f ' a IS f MARKER m");
    word(b, "a", 1, 1, 1, 0, 2, NONE, 1, 0);
    word(b, "c", 2, 0, 1, 7, 0, NONE, 1, 0);
    word(b, "v", 4, 0, 1, 8, 0, NONE, 1, 0);
    word(b, "w", 7, 0, 1, 256, 0, NONE, 1, 0);
    word(b, "d", 3, 0, 1, 260, 0, NONE, 1, 0);
    word(b, "e", 5, 0, 1, NONE, 0, NONE, 1, 0);
    word(b, "f", 5, 0, 1, 172, 0, NONE, 1, 0);
    word(b, "m", 6, 0, 1, 0, 0, NONE, 1, 0);
    b.good("WORDLIST >ORDER DEFINITIONS : g CREATE DOES> @ ; g hh :NONAME 3 ; DROP");
    word(b, "g", 1, 0, 2, 2, 4, NONE, 1, 0);
    word(b, "hh", 3, 0, 2, 264, 0, 4, 2, 0);
    b.due("a nameless one's list", b.house.word(0, 182, 2), 0);
    b.due("a nameless one's name", b.house.word(0, 182, 6), 0);
    b.due("its items", b.house.word(0, 182, 4), 2);
    b.good(": k 1 2 3");
    b.due("HIDDEN", b.house.word(0, 183, 7), 1);
    b.due("its items", b.house.word(0, 183, 4), 0);
    b.due("its first", b.house.word(0, 183, 3), 8);
    b.due("what 8", b.house.word(0, 0, 8), BAD);
    b.due("what -1", b.house.word(0, 0, -1), BAD);
    b.due("no token", b.house.word(0, 184, 0), BAD);
    b.due("no token", b.house.word(0, -1, 0), BAD);
    b.due("no system", b.house.word(1, 0, 0), BAD);
    b.end();
  }

  private static void word(Bench b, String name, int... due) {
    int token = b.find(name);
    for (int i = 0; i < 8; i++) b.due("word " + name + " " + i, b.house.word(0, token, i), due[i]);
  }

  private static void name() {
    Bench b = new Bench("promise 16, name", 4, 0);
    b.due("D", b.house.name(0, 0, 0), 'D');
    b.due("P", b.house.name(0, 0, 2), 'P');
    b.due("behind", b.house.name(0, 0, 3), NONE);
    b.due("-1", b.house.name(0, 0, -1), NONE);
    b.due("no token", b.house.name(0, 172, 0), BAD);
    b.due("no token", b.house.name(0, -1, 0), BAD);
    b.due("no system", b.house.name(1, 0, 0), BAD);
    b.good("VARIABLE a" + (char) 233 + "bcdefghijklmnopqrstuvw");
    b.due("byte 233", b.house.name(0, 172, 1), 233);
    b.due("bytes", b.house.word(0, 172, 6), 24);
    b.due("the last", b.house.name(0, 172, 23), 'w');
    b.due("behind", b.house.name(0, 172, 24), NONE);
    b.due("as it was written", b.run("VARIABLE qQ") + b.house.name(0, 173, 0) + b.house.name(0, 173, 1), 'q' + 'Q');
    b.end();
  }

  private static void item() {
    Bench b = new Bench("promise 17, item", 4, 0);
    b.due("none yet", b.house.item(0, 0, 0), BAD);
    b.good(": a 5 IF 6 ELSE -7 THEN ;");
    b.due("items", b.items(0, 0, 6), "1:5 3:4 1:6 2:5 1:-7 0:150");
    b.due("behind", b.house.item(0, 6, 0), BAD);
    b.due("-1", b.house.item(0, -1, 0), BAD);
    b.due("what 2", b.house.item(0, 0, 2), BAD);
    b.due("what -1", b.house.item(0, 0, -1), BAD);
    b.due("no system", b.house.item(1, 0, 0), BAD);
    b.end();
  }

  private static void effect() {
    Bench b = new Bench("promise 18, effect", 4, 0);
    b.good(": a + ; : c IF 1 THEN ; : u EXECUTE ; 5 CONSTANT k : h");
    b.due("known", b.house.effect(0, 172), 1);
    b.due("CONFLICT", b.house.effect(0, 173), 0);
    b.due("UNKNOWN", b.house.effect(0, 174), 2);
    b.due("a CONSTANT", b.house.effect(0, 175), BAD);
    b.due("not ended", b.house.effect(0, 176), BAD);
    b.due("built in", b.house.effect(0, 0), BAD);
    b.due("no token", b.house.effect(0, 177), BAD);
    b.due("-1", b.house.effect(0, -1), BAD);
    b.due("no system", b.house.effect(1, 172), BAD);
    b.end();
  }

  private static void effectOf() {
    Bench b = new Bench("promise 19, effectOf", 4, 0);
    b.good(": a ROT + ; : c IF 1 THEN ; : u EXECUTE ; : h");
    b.due("known", b.effect("a"), "1 3 2 -1");
    b.due("CONFLICT", b.effect("c"), "0 0 0 5");
    b.due("UNKNOWN", b.effect("u"), "2 0 0 6");
    b.due("what 3", b.house.effectOf(0, 172, 3), BAD);
    b.due("what -1", b.house.effectOf(0, 172, -1), BAD);
    b.due("not ended", b.house.effectOf(0, 175, 0), BAD);
    b.due("built in", b.house.effectOf(0, 0, 0), BAD);
    b.due("no system", b.house.effectOf(1, 172, 0), BAD);
    b.end();
  }

  private static void lean() {
    Bench b = new Bench("promise 20, lean", 4, 0);
    b.good(": a 1 2 + 3 * ; : d CREATE DOES> ; : q [: ;] DROP ; : n DUP ;");
    b.due("a", b.house.lean(0, 172), 4);
    b.due("its items", b.items(0, 0, 2), "1:9 0:150");
    b.due("how many", b.house.word(0, 172, 4), 2);
    b.due("all stay", b.house.count(0, 2), b.house.word(0, b.find("n"), 3) + 2);
    b.due("again", b.house.lean(0, 172), 0);
    b.due("with DOES", b.house.lean(0, b.find("d")), BAD);
    b.due("with one within", b.house.lean(0, 174), BAD);
    b.due("that is one within", b.house.lean(0, 175), BAD);
    b.due("built in", b.house.lean(0, 0), BAD);
    b.due("no system", b.house.lean(1, 172), BAD);
    b.due("not over", b.run(0, "1", 1), 1);
    b.due("not over", b.house.lean(0, 172), STATE);
    b.due("BAD ahead of STATE", b.house.lean(0, 173), BAD);
    b.house.go(0, 1);
    b.good(": under");
    b.due("under way", b.house.lean(0, 172), STATE);
    b.due("not ended", b.house.lean(0, b.house.count(0, 13)), BAD);
    b.good("; ' n TASK");
    b.due("a task", b.house.lean(0, 172), STATE);
    b.good("PAUSE");
    b.due("it has ended", b.house.lean(0, 172), 0);
    b.end();
  }

  private static void chip() {
    Bench b = new Bench("promise 21, chip", 4, 0);
    b.good(": sq DUP * ; : a 3 sq ; : bad HERE ;");
    b.due("no system", b.house.chip(1, 172), BAD);
    b.due("built in", b.house.chip(0, 0), BAD);
    b.due("no token", b.house.chip(0, 175), BAD);
    b.due("a", b.house.chip(0, 173), 7);
    b.due("BAD leaves it", b.house.chip(0, 0), BAD);
    b.due("it is there", b.house.chipTold(6), 7);
    b.house.chipPut(1);
    b.due("bad", b.house.chip(0, 174), 0);
    b.due("none is there", b.house.chipTold(6), 0);
    b.due("rows are empty", b.house.chipCell(0), 0);
    b.due("none is there", b.house.chipGo(1), STATE);
    b.good(": under");
    b.due("not ended", b.house.chip(0, 175), BAD);
    b.end();
  }

  private static void chipWord() {
    Bench b = new Bench("promise 22, chipWord", 4, 0);
    b.good(": sq DUP * ; : a 3 sq IF 4 THEN ;");
    b.due("a", b.house.chip(0, 173), 10);
    int[] due = {16777216, 3, 17 * 16777216 + 7, 3 * 16777216 + 6, 16777216, 4, 150, 0, 23, 150};
    for (int i = 0; i < due.length; i++) b.due("chip word " + i, b.house.chipWord(i), due[i]);
    b.due("behind", b.house.chipWord(10), NONE);
    b.due("-1", b.house.chipWord(-1), NONE);
    b.end();
  }

  private static void chipPut() {
    Bench b = new Bench("promise 23, chipPut", 2, 0);
    b.due("no chip", b.house.chipPut(1), STATE);
    b.good(": a DUP ; : f DROP ;");
    b.house.chip(0, 172);
    b.due("one", b.house.chipPut(65535), 1);
    b.due("cut", b.house.chipCell(0), -1);
    for (int i = 2; i <= 64; i++) b.due("more", b.house.chipPut(i), i);
    b.due("FULL", b.house.chipPut(1), FULL);
    b.due("a fault", b.house.chipGo(1), -2);
    b.due("at fault", b.house.chipPut(1), STATE);
    b.house.chip(0, 173);
    b.house.chipPut(1);
    b.due("ended", b.house.chipGo(9), 0);
    b.due("ended", b.house.chipPut(1), STATE);
    b.end();
  }

  private static void chipGo() {
    Bench b = new Bench("promise 24, chipGo", 4, 0);
    b.due("0", b.house.chipGo(0), BAD);
    b.due("20001", b.house.chipGo(20001), BAD);
    b.due("no chip", b.house.chipGo(20000), STATE);
    b.good(": a 1 2 + ; : e BEGIN AGAIN ; : f + ;");
    b.house.chip(0, 172);
    b.due("three words", b.house.chipGo(3), 1);
    b.due("EXIT", b.house.chipGo(1), 0);
    b.due("it has ended", b.house.chipGo(1), 0);
    b.due("words done", b.house.chipTold(5), 4);
    b.house.chip(0, 173);
    b.due("for ever", b.house.chipGo(20000), 1);
    b.house.chip(0, 174);
    b.due("FAULT", b.house.chipGo(5), -2);
    b.due("FAULT again", b.house.chipGo(5), -2);
    b.due("words done", b.house.chipTold(5), 1);
    b.end();
  }

  private static void chipTold() {
    Bench b = new Bench("promise 25, chipTold", 4, 0);
    for (int i = 0; i < 8; i++) b.due("no chip", b.house.chipTold(i), 0);
    b.due("what 8", b.house.chipTold(8), BAD);
    b.due("what -1", b.house.chipTold(-1), BAD);
    b.good(": sq 5 >R 10 0 DO 1 0 / LOOP R> DROP ; : a 9 sq ;");
    b.due("a", b.house.chip(0, 173), 21);
    int[] made = {0, 0, 0, 0, 0, 0, 21, 0};
    for (int i = 0; i < 8; i++) b.due("told of one just made " + i, b.house.chipTold(i), made[i]);
    b.house.chipGo(8);
    int[] due = {14, 2, 1, 1, 0, 8, 21, 1};
    for (int i = 0; i < 8; i++) b.due("told " + i, b.house.chipTold(i), due[i]);
    b.due("FAULT", b.house.chipGo(9), -2);
    int[] then = {16, 1, 1, 1, -10, 10, 21, 1};
    for (int i = 0; i < 8; i++) b.due("told then " + i, b.house.chipTold(i), then[i]);
    b.end();
  }

  private static void chipCell() {
    Bench b = new Bench("promise 26, chipCell", 4, 0);
    b.due("no chip", b.house.chipCell(0), 0);
    b.good(": a ;");
    b.house.chip(0, 172);
    b.house.chipPut(5);
    b.house.chipPut(6);
    b.due("top", b.house.chipCell(0), 6);
    b.due("below", b.house.chipCell(1), 5);
    b.due("none", b.house.chipCell(2), 0);
    b.due("none", b.house.chipCell(-1), 0);
    b.house.chip(0, 172);
    b.due("made again, empty", b.house.chipCell(0), 0);
    b.end();
  }

  private static void chipByte() {
    Bench b = new Bench("promise 27, chipByte", 4, 0);
    b.due("no chip", b.house.chipByte(0), NONE);
    b.good("7 1000 C! : a 8 1000 C! ;");
    b.house.chip(0, 172);
    b.due("a copy", b.house.chipByte(1000), 7);
    b.house.chipGo(9);
    b.due("its own", b.house.chipByte(1000), 8);
    b.due("the system's", b.house.fetch(0, 1000, 1), 7);
    b.due("4095", b.house.chipByte(4095), 0);
    b.due("4096", b.house.chipByte(4096), NONE);
    b.due("-1", b.house.chipByte(-1), NONE);
    b.end();
  }

  private static void put() {
    Bench b = new Bench("promise 28, put", 4, 0);
    b.type("7 8");
    b.due("no system", b.house.put(1, 0, 0), BAD);
    b.due("the TAPE", b.house.wipe(), 0);
    b.type("7 8");
    b.due("block 8", b.house.put(0, 8, 0), BAD);
    b.type("7 8");
    b.due("block -1", b.house.put(0, -1, 0), BAD);
    b.type("7 8");
    b.due("at 510", b.house.put(0, 0, 510), BAD);
    b.type("7 8");
    b.due("at -1", b.house.put(0, 0, -1), BAD);
    b.due("the TAPE", b.house.wipe(), 0);
    b.due("an empty one at 512", b.house.put(0, 0, 512), 0);
    b.due("an empty one at 513", b.house.put(0, 0, 513), BAD);
    b.type("7 8");
    b.due("at 509", b.house.put(0, 0, 509), 3);
    b.due("the TAPE", b.house.wipe(), 0);
    b.data("0 LOAD 9 1 LOAD", "7 8 9");
    b.type("5");
    b.due("block 7", b.house.put(0, 7, 0), 1);
    b.data("7 LOAD 0 LOAD", "5 7 8");
    b.end();
  }

  private static void keep() {
    Bench b = new Bench("promise 29, keep", 4, 0);
    b.due("no system", b.house.keep(1, 0), BAD);
    b.due("image 2", b.house.keep(0, 2), BAD);
    b.due("image -1", b.house.keep(0, -1), BAD);
    b.good("1");
    b.due("kept", b.house.keep(0, 1), 1);
    b.good("2 : a ;");
    b.due("kept", b.house.keep(0, 0), 1);
    b.house.again(1, 1);
    b.house.again(2, 0);
    b.due("as it was", b.data(1, 0), "1");
    b.due("as it was", b.house.count(1, 1), 172);
    b.due("as it was", b.data(2, 0), "1 2");
    b.due("kept anew", b.house.keep(0, 1), 1);
    b.house.again(1, 1);
    b.due("as it was then", b.data(1, 0), "1 2");
    b.end();
    keepsAll();
  }

  /** An image is not what becomes of its system, and a system not what becomes of its image. */
  private static void keepsAll() {
    Bench b = new Bench("promise 29, an image stays");
    b.house.system(3, 5);
    b.run(0, "7 : a 1 ; ", 99);
    b.house.keep(0, 0);
    b.due("the other image is none", b.house.again(0, 1), NONE);
    b.due("made again", b.house.again(1, 0), 1);
    b.due("the same", b.house.same(0, 1), true);
    b.run(0, "DROP 8 : b 2 ; 512 ALLOT 1 300 !", 99);
    b.due("the system goes on alone", b.house.same(0, 1), false);
    b.due("a third", b.house.again(2, 0), 2);
    b.due("the image stays", b.house.same(1, 2), true);
    b.run(2, "DROP 9 : c 3 ;", 99);
    b.due("what was made goes on alone", b.house.same(1, 2), false);
    b.due("back", b.house.again(2, 0), 2);
    b.due("the image stays", b.house.same(1, 2), true);
    b.due("its cells", b.house.fetch(2, 4095, 0), BAD);
    b.due("its cells", b.house.fetch(2, 4093, 0), 0);
    b.due("its choices", b.run(2, "-7 2 /", 99) + b.house.cell(2, 0, 0, 0), -4);
    b.end();
  }

  private static void again() {
    Bench b = new Bench("promise 30, again", 4, 0);
    b.due("no image", b.house.again(0, 0), NONE);
    b.due("image 2", b.house.again(0, 2), BAD);
    b.due("system 2", b.house.again(2, 0), BAD);
    b.due("system -1", b.house.again(-1, 0), BAD);
    b.due("BAD ahead of NONE", b.house.again(2, 1), BAD);
    b.due("to run", b.run(0, ": a {: x :} x 1+ BEGIN PAUSE AGAIN ; 5 a", 20), 1);
    b.due("kept", b.house.keep(0, 1), 1);
    b.due("a new one", b.house.again(1, 1), 1);
    b.due("it is the same", b.house.same(0, 1), true);
    b.due("on", b.house.go(0, 7), 1);
    b.due("no more", b.house.same(0, 1), false);
    b.due("on, too", b.house.go(1, 7), 1);
    b.due("again", b.house.same(0, 1), true);
    b.due("all is there", b.house.count(1, 4), b.house.count(0, 4));
    b.due("back", b.house.again(0, 1), 0);
    b.due("not the same", b.house.same(0, 1), false);
    b.due("other cells", b.house.system(2, 5), 2);
    b.due("FULL", b.house.again(3, 1), FULL);
    b.due("NONE ahead of FULL", b.house.again(3, 0), NONE);
    b.due("over another one", b.house.again(2, 1), 2);
    b.due("the same", b.house.same(2, 0), true);
    b.due("its steps", b.house.count(2, 4), 20);
    b.end();
  }

  /** Two systems after a text each. */
  private static void alike(Bench b, String one, String other, boolean due) {
    Bench two = new Bench("", 4, 0);
    two.house.system(4, 0);
    two.run(0, one, 200);
    two.run(1, other, 200);
    b.due("same after " + one + " and " + other, two.house.same(0, 1), due);
    b.due("same after " + other + " and " + one, two.house.same(1, 0), due);
  }

  private static void same() {
    Bench b = new Bench("promise 31, same", 4, 0);
    b.due("with itself", b.house.same(0, 0), true);
    b.due("no system", b.house.same(0, 1), false);
    b.due("no system", b.house.same(-1, 0), false);
    b.house.system(4, 1);
    b.due("choices", b.house.same(0, 1), false);
    b.house.system(3, 0);
    b.due("cells", b.house.same(0, 2), false);
    alike(b, "1 2 +", "2 1 +", true);
    alike(b, "1 2", "2 1", false);
    alike(b, "1 2", "1 2 ", false);
    alike(b, ": a 1 ;", ": a 2 ;", false);
    alike(b, ": a 1 ;", ": A 1 ;", false);
    alike(b, ": a 1 ; ", ": a  1 ;", true);
    alike(b, ": a 1 ; IMMEDIATE", ": a 1 ;          ", false);
    alike(b, "5 CONSTANT a", "5 VALUE    a", false);
    alike(b, "1 ALLOT", "2 ALLOT", false);
    alike(b, "65 EMIT", "66 EMIT", true);
    alike(b, "WORDLIST DROP", "1        DROP", false);
    alike(b, "1 >ORDER", "1 DROP  ", false);
    alike(b, ": a IF ", ": a 1  ", false);
    alike(b, ": a 1 IF BEGIN [ ", ": a 1 IF BEGIN   ", false);
    alike(b, ": a BEGIN BEGIN ", ": a BEGIN       ", false);
    alike(b, ": a BEGIN AGAIN ; a", ": a BEGIN AGAIN ; a ", false);
    alike(b, ": a BEGIN AGAIN ; a 1", ": a BEGIN AGAIN ; a 2", false);
    alike(b, ": a BEGIN AGAIN ; a  1", ": a BEGIN AGAIN ; a  1", true);
    alike(b, ": a PAUSE ; ' a TASK", ": a PAUSE ; ' + TASK", false);
    alike(b, ": a 1 THROW ; ' a TASK PAUSE", ": a 1 THROW ; ' a TASK PAUSE", true);
    alike(b, ": a THROW 1 ; 2 5 ' a CATCH", ": a THROW 1 ; 2 6 ' a CATCH", false);
    alike(b, ": a ; ' a TASK PAUSE", ": a ; ' a TASK     ", false);
    alike(b, "S\" 1\" EVALUATE 128 C@ DROP", "S\" 1\" EVALUATE 129 C@ DROP", true);
    Bench c = new Bench("", 4, 0);
    c.house.system(4, 0);
    c.type("x");
    c.house.put(0, 3, 3);
    b.due("BLOCKS", c.house.same(0, 1), false);
    c.type("x");
    c.house.put(1, 3, 3);
    b.due("BLOCKS", c.house.same(0, 1), true);
    b.end();
    sameCatch();
  }

  /** The frame of a CATCH has the text and >IN then; another task than 0 has no text. */
  private static void sameCatch() {
    Bench b = new Bench("promise 31, frames of CATCH", 2, 0);
    b.good(": w PAUSE ; : t ['] w CATCH ; ' t TASK DROP");
    b.house.keep(0, 0);
    b.due("another system", b.house.again(1, 0), 1);
    b.due("another system", b.house.again(2, 0), 2);
    b.due("in the main text", b.run(0, "PAUSE S\" PAUSE \" 2DROP ", 99), 0);
    b.due("in a nested one", b.run(1, "S\" PAUSE \" EVALUATE    ", 99), 0);
    b.due("elsewhere in the main text", b.run(2, "S\" PAUSE \" 2DROP PAUSE ", 99), 0);
    b.due("no text of its own", b.house.same(0, 1), true);
    b.due("another >IN", b.house.same(0, 2), false);
    b.due("another DATA", b.run(1, "' w TASK", 99), 0);
    b.due("another task more", b.house.same(0, 1), false);
    alike(b, ": a PAUSE ; ' a CATCH DROP", ": a PAUSE ; ' a CATCH DROP", true);
    alike(b, ": a BEGIN AGAIN ; ' a CATCH", ": a BEGIN AGAIN ; ' a CATCH", true);
    alike(b, ": a BEGIN AGAIN ; 1 ' a CATCH", ": a BEGIN AGAIN ; ' a CATCH 1", false);
    alike(b, ": c 9 >IN ! BEGIN AGAIN ; ' c CATCH ", ": c 9 >IN ! BEGIN AGAIN ; ' c  CATCH", false);
    b.end();
  }
}
