/** Part 1, sentence by sentence: the last that is taken, the first that is refused, what goes round. */
public final class EdgesPart1Test {
  private static final int BAD = -2, NONE = -1;

  public static void main(String[] args) {
    numbers();
    cellsGoRound();
    doubles();
    floored();
    byCase();
    highestFirst();
    spaceEnds();
    spaceAtFirst();
    baseAndIn();
    pictures();
    strings();
    here();
    tokens();
    names();
    listsAtFirst();
    immediateAtFirst();
    kinds();
    markers();
    items();
    jumpsNotKnown();
    jumpsKnown();
    data();
    returns();
    loops();
    locals();
    frames();
    rowsOfTasks();
    stepsOfItems();
    stepsOfEnds();
    stepsOfTasks();
    stepsOfBoxes();
    Bench.exit();
  }

  private static void numbers() {
    Bench b = new Bench("part 1: systems have the numbers 0 .. 2 as they are made");
    b.due("none yet", b.house.count(0, 0), BAD);
    for (int i = 0; i < 3; i++) {
      b.due("made", b.house.system(4 - i, i), i);
      b.due("there", b.house.count(i, 0), 256);
      b.due("not there yet", b.house.count(i + 1, 0), BAD);
    }
    b.due("-1", b.house.count(-1, 0), BAD);
    b.due("the highest number", b.house.count(2147483647, 0), BAD);
    b.due("the lowest number", b.house.count(-2147483648, 0), BAD);
    b.end();
  }

  private static void cellsGoRound() {
    Bench b = new Bench("part 1: cells of 2, 3 and 4 bytes, with sign, go round");
    for (int cell = 2; cell <= 4; cell++) {
      long top = (1L << (8 * cell - 1)) - 1;
      Bench one = new Bench("", cell, 0);
      long[][] due = {{top, top}, {top + 1, -top - 1}, {-top - 1, -top - 1}, {-top - 2, top}, {2 * top + 1, -1}, {2 * top + 2, 0}};
      for (long[] d : due) {
        one.run("" + d[0]);
        b.due(cell + " bytes, " + d[0], one.house.cell(0, 0, 0, 0), d[1]);
      }
      one.run(top + " 1+");
      b.due(cell + " bytes, the highest and 1", one.house.cell(0, 0, 0, 0), -top - 1);
      one.run("-1 1- " + (-top - 1) + " 1-");
      b.due(cell + " bytes, the lowest less 1", one.house.cell(0, 0, 0, 0), top);
      b.due(cell + " bytes, below 0", one.house.cell(0, 0, 0, 1), -2);
    }
    b.end();
  }

  private static void doubles() {
    Bench b = new Bench("part 1: in doubles the higher cell lies on top");
    b.due("2 bytes", Bench.output(2, 0, "65537. . . -1. . . 65535. . ."), "1 1 -1 -1 0 -1 ");
    b.due("3 bytes", Bench.output(3, 0, "16777217. . . 16777215. . ."), "1 1 0 -1 ");
    b.due("4 bytes", Bench.output(4, 0, "4294967297. . . 4294967295. . . 5 S>D . . -5 S>D . ."), "1 1 0 -1 0 5 -1 -5 ");
    b.end();
  }

  private static void floored() {
    Bench b = new Bench("part 1: CHOICES 1, quotients are floored, else cut toward 0");
    String text = "-7 2 / . -7 2 MOD . -7 2 /MOD . . -7 3 2 */ . -7 3 2 */MOD . . 7 -2 / . 7 -2 MOD . -8 2 / . -8 2 MOD . -1 -2 / .";
    for (int choices = 0; choices < 8; choices++) {
      String due = choices % 2 == 1 ? "-4 1 -4 1 -11 -11 1 -4 -1 -4 0 0 " : "-3 -1 -3 -1 -10 -10 -1 -3 1 -4 0 0 ";
      b.due("choices " + choices, Bench.output(2, choices, text), due);
    }
    String own = "-7 -1 2 FM/MOD . . -7 -1 2 SM/REM . .";
    b.due("FM/MOD floors, SM/REM does not", Bench.output(4, 0, own), "-4 1 -3 -1 ");
    b.due("whatever the choice", Bench.output(4, 1, own), "-4 1 -3 -1 ");
    b.due("2/ is none of them", Bench.output(4, 0, "-7 2/ ."), "-4 ");
    b.end();
  }

  private static void byCase() {
    Bench b = new Bench("part 1: CHOICES 2, letters differ by case, else A .. Z are as a .. z");
    for (int choices = 0; choices < 8; choices++) {
      Bench one = new Bench("", 4, choices);
      boolean differ = (choices & 2) != 0;
      b.due("dup, choices " + choices, one.find("dup"), differ ? NONE : 0);
      one.run(": Az 1 ; : @[`{ 2 ; : " + (char) 0xC1 + " 3 ;");
      b.due("aZ", one.find("aZ"), differ ? NONE : 172);
      b.due("as it was written", one.find("Az"), 172);
      b.due("signs beside the letters", one.find("`[`{"), NONE);
      b.due("signs beside the letters", one.find("@{`{"), NONE);
      b.due("a byte above 127", one.find("" + (char) 0xE1), NONE);
      b.due("a byte above 127 itself", one.find("" + (char) 0xC1), 174);
    }
    b.end();
  }

  private static void highestFirst() {
    Bench b = new Bench("part 1: CHOICES 4, the highest byte lies first, else the lowest");
    for (int cell = 2; cell <= 4; cell++) {
      for (int choices = 0; choices < 8; choices++) {
        Bench one = new Bench("", cell, choices);
        one.run("$01020304 1000 !");
        for (int i = 0; i < cell; i++) {
          int due = (choices & 4) != 0 ? 5 - cell + i : 4 - i;
          b.due(cell + " bytes, choices " + choices + ", byte " + i, one.house.fetch(0, 1000 + i, 1), due);
        }
        b.due("the byte behind", one.house.fetch(0, 1000 + cell, 1), 0);
        b.due("the cell", one.house.fetch(0, 1000, 0), new int[] {0x0304, 0x020304, 0x01020304}[cell - 2]);
      }
    }
    b.end();
  }

  private static void spaceEnds() {
    Bench b = new Bench("part 1: SPACE has the addresses 0 .. 4095, what is not all in it is -9");
    for (int cell = 2; cell <= 4; cell++) {
      Bench one = new Bench("", cell, 0);
      int last = 4096 - cell;
      one.good("7 " + last + " ! 8 4095 C! 0 C@ DROP 0 @ DROP 4095 C@ DROP " + last + " @ DROP");
      b.due("the last byte", one.house.fetch(0, 4095, 1), 8);
      b.due("the last cell's first byte", one.house.fetch(0, last, 1), 7);
      for (String t : new String[] {"4096 C@", "1 4096 C!", (last + 1) + " @", "1 " + (last + 1) + " !", "1 " + (last + 1) + " +!",
        "-1 C@", "-1 @", (-cell) + " @", "1 -1 C!", "4096 COUNT", "-1 COUNT", (last - cell + 1) + " 2@", "1 2 " + (last - cell + 1) + " 2!"}) {
        b.due(cell + " bytes, " + t, one.run(t), -2);
        b.due(cell + " bytes, code of " + t, one.house.thrown(0, 0), -9);
      }
      b.due("two cells at the end", one.run("1 2 " + (last - cell) + " 2! " + (last - cell) + " 2@ 2DROP"), 0);
      b.due("4095 COUNT", one.run("4095 COUNT 2DROP"), 0);
    }
    b.end();
  }

  private static void spaceAtFirst() {
    Bench b = new Bench("part 1: SPACE is all 0 at first, but for BASE");
    for (int cell = 2; cell <= 4; cell++) {
      for (int choices = 0; choices <= 4; choices += 4) {
        Bench one = new Bench("", cell, choices);
        int base = choices == 0 ? 0 : cell - 1;
        for (int at = 0; at < 4096; at++) b.due("byte " + at, one.house.fetch(0, at, 1), at == base ? 10 : 0);
      }
    }
    b.end();
  }

  private static void baseAndIn() {
    Bench b = new Bench("part 1: the cell at 0 is BASE, that at 4 >IN");
    for (int cell = 2; cell <= 4; cell++) {
      Bench one = new Bench("", cell, 4);
      b.due("BASE at first", one.house.fetch(0, 0, 0), 10);
      b.due(">IN at first", one.house.fetch(0, 4, 0), 0);
      one.good("16 0 ! 10 #10 0 !");
      b.due("BASE tells how numbers are read", one.house.cell(0, 0, 0, 0), 16);
      b.due(">IN is the cell at 4", one.house.fetch(0, 4, 0), 17);
      b.due("a new text begins at 0", one.run(0, "2", 1) + one.house.fetch(0, 4, 0), 2);
      one.house.go(0, 9);
      b.due("what is laid at 4 is >IN", one.run("9 4 ! 1 2 77"), 0);
      b.due("77 alone", one.house.cell(0, 0, 0, 0), 77);
    }
    b.end();
  }

  private static void pictures() {
    Bench b = new Bench("part 1: numbers are put together from 16 to 127", 4, 0);
    b.good(": holds 0 DO 42 HOLD LOOP ; <# 1 holds");
    b.due("the first one", b.house.fetch(0, 127, 1), 42);
    b.due("128 is none of it", b.house.fetch(0, 128, 1), 0);
    b.good("111 holds");
    b.due("the last one", b.house.fetch(0, 16, 1), 42);
    b.thrown("1 holds", -17);
    b.due("15 is none of it", b.house.fetch(0, 15, 1), 0);
    b.data("0 0 #>", "16 112");
    b.end();
  }

  private static void strings() {
    Bench b = new Bench("part 1: strings that were read while interpreting lie from 128 to 255", 4, 0);
    String all = "x".repeat(127) + "y";
    b.data("S\" " + all + "\"", "128 128");
    b.due("the first", b.house.fetch(0, 128, 1), 'x');
    b.due("the last", b.house.fetch(0, 255, 1), 'y');
    b.due("the one below", b.house.fetch(0, 127, 1), 0);
    b.due("the one behind", b.house.fetch(0, 256, 1), 0);
    b.good("S\" ab\" 2DROP");
    b.due("a shorter one leaves the rest", b.house.fetch(0, 130, 1), 'x');
    b.end();
  }

  private static void here() {
    Bench b = new Bench("part 1: HERE is 256 at first");
    for (int cell = 2; cell <= 4; cell++) {
      Bench one = new Bench("", cell, 0);
      b.due("count", one.house.count(0, 0), 256);
      one.data("HERE", "256");
      b.due("-1 ALLOT", one.run("-1 ALLOT"), -2);
      b.due("code", one.house.thrown(0, 0), -8);
      b.due("all that there is", one.run("3840 ALLOT") + one.house.count(0, 0), 4096);
      b.due("one more", one.run("1 ALLOT"), -2);
      b.due("it stays", one.house.count(0, 0), 4096);
    }
    b.end();
  }

  private static void tokens() {
    Bench b = new Bench("part 1: WORDS have TOKENS from 0 on, 360 at most");
    b.due("at first", b.house.system(4, 0) + b.house.count(0, 1), 172);
    b.due("DUP", b.find("DUP"), 0);
    b.due("}T", b.find("}T"), 171);
    b.due("none behind", b.house.word(0, 172, 0), BAD);
    b.good("VARIABLE v");
    b.due("the first that is made", b.find("v"), 172);
    b.good(": mk S\" CREATE x\" EVALUATE ; : mks 0 DO mk LOOP ; 185 mks");
    b.due("360", b.house.count(0, 1), 360);
    b.due("the last", b.house.word(0, 359, 0), 3);
    b.due("behind", b.house.word(0, 360, 0), BAD);
    for (String t : ": q|:NONAME|CREATE q|VARIABLE q|DEFER q|MARKER q|5 CONSTANT q|5 VALUE q".split("\\|")) {
      b.thrown(t, -8);
      b.due("no word more", b.house.count(0, 1), 360);
    }
    b.thrown("360 EXECUTE", -9);
    b.good("359 EXECUTE DROP");
    b.end();
  }

  private static void names() {
    Bench b = new Bench("part 1: a NAME has 1 to 24 bytes", 4, 0);
    String name = "abcdefghijklmnopqrstuvwx";
    for (String w : ": CREATE VARIABLE DEFER MARKER".split(" ")) {
      b.good(w + " q" + (w.equals(":") ? " ;" : ""));
      b.due("one byte", b.house.word(0, b.house.count(0, 1) - 1, 6), 1);
      b.good(w + " " + name + (w.equals(":") ? " ;" : ""));
      b.due("24 bytes", b.house.word(0, b.house.count(0, 1) - 1, 6), 24);
      int words = b.house.count(0, 1);
      b.thrown(w + " " + name + "y", -19);
      b.thrown(w, -16);
      b.due("no word", b.house.count(0, 1), words);
    }
    for (String w : "CONSTANT VALUE".split(" ")) {
      b.good("5 " + w + " " + name);
      b.thrown("5 " + w + " " + name + "y", -19);
      b.thrown("5 " + w, -16);
    }
    b.end();
  }

  private static void listsAtFirst() {
    Bench b = new Bench("part 1: all words lie in list 1 at first", 4, 0);
    for (int t = 0; t < 172; t++) b.due("token " + t, b.house.word(0, t, 2), 1);
    b.good("VARIABLE v");
    b.due("a new one", b.house.word(0, 172, 2), 1);
    b.end();
  }

  private static void immediateAtFirst() {
    Bench b = new Bench("part 8: IMMEDIATE are line 8 but I J UNLOOP EXIT and those that it tells", 4, 0);
    String told = " IF ELSE THEN BEGIN UNTIL WHILE REPEAT AGAIN AHEAD DO ?DO LOOP +LOOP LEAVE CASE OF ENDOF ENDCASE ; ['] [CHAR] "
        + "[ LITERAL POSTPONE RECURSE TO IS DOES> S\" .\" ABORT\" ( \\ {: [: ;] ";
    for (int t = 0; t < 172; t++) {
      StringBuilder name = new StringBuilder(" ");
      for (int i = 0; i < b.house.word(0, t, 6); i++) name.append((char) b.house.name(0, t, i));
      b.due("token " + t + name, b.house.word(0, t, 1), told.contains(name.append(' ')) ? 1 : 0);
    }
    b.end();
  }

  private static void kinds() {
    Bench b = new Bench("part 1: kinds of words are 0 to 7", 4, 0);
    b.good(": a ; 1 CONSTANT c CREATE d 2 VALUE e DEFER f MARKER g VARIABLE h :NONAME [: ;] ;");
    int[] due = {1, 2, 3, 4, 5, 6, 7, 1, 1};
    for (int i = 0; i < due.length; i++) b.due("word " + i, b.house.word(0, 172 + i, 0), due[i]);
    for (int t = 0; t < 172; t++) b.due("token " + t, b.house.word(0, t, 0), 0);
    b.end();
  }

  private static void markers() {
    Bench b = new Bench("part 1: 32 MARKERs at once, -8", 4, 0);
    b.good(": mk S\" MARKER x\" EVALUATE ; : mks 0 DO mk LOOP ; MARKER first 31 mks");
    b.due("32", b.house.count(0, 1), 174 + 32);
    b.thrown("MARKER y", -8);
    b.due("no word", b.house.count(0, 1), 174 + 32);
    b.good("x MARKER y");
    b.thrown("MARKER z", -8);
    b.good("first 32 mks");
    b.thrown("MARKER z", -8);
    b.end();
  }

  private static void items() {
    Bench b = new Bench("part 1: 4000 ITEMS in all", 4, 0);
    b.good(Bench.FILL);
    int free = 4000 - b.house.count(0, 2);
    b.due("3999 and EXIT", b.runOn(": w [ " + (free - 1) + " ] n, ;"), 0);
    b.due("all", b.house.count(0, 2), 4000);
    b.due("the last", b.house.item(0, 3999, 1), 150);
    b.due("behind", b.house.item(0, 4000, 0), BAD);
    b.thrown(": x ;", -8);
    b.thrown(": x 1", -8);
    b.thrown(":NONAME ;", -8);
    b.due("words that need none", b.run("VARIABLE v 5 CONSTANT c CREATE d DEFER e MARKER m"), 0);
    b.end();
    Bench c = new Bench("part 1: the item behind the last one is refused", 4, 0);
    c.good(Bench.FILL);
    free = 4000 - c.house.count(0, 2);
    c.due("one too many", c.runOn(": w [ " + free + " ] n, ;"), -2);
    c.due("code", c.house.thrown(0, 0), -8);
    c.due("taken back", c.house.count(0, 2), 4000 - free);
    c.due("and the word", c.find("w"), NONE);
    c.end();
  }

  private static void jumpsNotKnown() {
    Bench b = new Bench("part 1: JUMPS tell 0 as long as their item is not known, LEAVE -2 less the place of its DO", 4, 0);
    b.good("5 CONSTANT c : a 1 IF AHEAD ?DO LEAVE CASE OF DO LEAVE");
    b.due("items", b.items(0, 0, 8), "1:1 3:0 2:0 5:0 8:-5 9:0 4:0 8:-8");
    b.thrown("x", -13);
    b.good(": b DO LEAVE");
    b.due("DO at 0", b.items(0, 0, 2), "4:0 8:-2");
    b.good("LOOP ;");
    b.due("known", b.items(0, 0, 4), "4:0 8:3 6:1 0:150");
    b.end();
  }

  private static void jumpsKnown() {
    Bench b = new Bench("part 1: JUMPS tell an item by its place among all", 4, 0);
    b.good(": z 1 2 ; : a IF ELSE THEN BEGIN WHILE REPEAT BEGIN UNTIL BEGIN AGAIN ;");
    b.due("items", b.items(0, 3, 10), "3:5 2:5 3:7 2:5 3:7 2:8 0:150");
    b.good(": c DO LOOP ?DO LEAVE +LOOP CASE OF ENDOF OF ENDOF ENDCASE ;");
    b.due("items", b.items(0, 10, 21), "4:0 6:11 5:15 8:15 7:13 9:17 2:20 9:19 2:20 0:1 0:150");
    b.good(": d AHEAD THEN [: ;] DROP ;");
    b.due("items", b.items(0, 21, 27), "2:22 2:24 0:150 1:" + (b.find("d") + 1) + " 0:1 0:150");
    b.end();
  }

  private static void data() {
    Bench b = new Bench("part 1: DATA has 64 cells", 4, 0);
    b.good(": ones 0 DO 1 LOOP ; 64 ones");
    b.due("64", b.house.depth(0, 0, 0), 64);
    b.thrown("1", -3);
    b.good("63 ones 9");
    b.due("the last", b.house.cell(0, 0, 0, 0), 9);
    b.thrown("DUP", -3);
    b.good("63 ones ' + CATCH");
    b.due("62, and 0", b.house.depth(0, 0, 0), 63);
    b.end();
  }

  private static void returns() {
    Bench b = new Bench("part 1: RETURN has 64 cells", 4, 0);
    b.good(": a 0 DO 1 >R LOOP BEGIN AGAIN ; : c 63 0 DO 1 >R LOOP 2 3 2>R ; : d 62 0 DO 1 >R LOOP 2 3 2>R BEGIN AGAIN ;");
    b.due("64", b.run(0, "64 a", 300), 1);
    b.due("64", b.house.depth(0, 0, 1), 64);
    Bench e = new Bench("", 4, 0);
    e.good(": a 0 DO 1 >R LOOP ; : c 63 0 DO 1 >R LOOP 2 3 2>R ; : d 62 0 DO 1 >R LOOP 2 3 2>R BEGIN AGAIN ;");
    e.run("65 a");
    b.due("65", e.house.thrown(0, 0), -5);
    e.run("c");
    b.due("63 and 2", e.house.thrown(0, 0), -5);
    b.due("62 and 2", e.run(0, "d", 400), 1);
    b.due("62 and 2", e.house.depth(0, 0, 1), 64);
    b.due("the last", e.house.cell(0, 0, 1, 0), 3);
    b.end();
  }

  private static void loops() {
    Bench b = new Bench("part 1: LOOPS has 16", 4, 0);
    b.good(": a 1 0 DO DUP IF 1- RECURSE THEN LOOP ; : q 1 1 ?DO LOOP ; : c 1 0 DO DUP IF 1- RECURSE ELSE q THEN LOOP ;");
    b.data("15 a", "0");
    b.thrown("16 a", -7);
    b.data("15 c", "0");
    b.good(": d 2 1 ?DO LOOP ; : e 1 0 DO DUP IF 1- RECURSE ELSE d THEN LOOP ;");
    b.data("14 e", "0");
    b.thrown("15 e", -7);
    b.end();
  }

  private static void locals() {
    Bench b = new Bench("part 1: LOCALS has 64", 4, 0);
    b.good(": a {: x | p q r s t u v :} x IF x 1- RECURSE THEN ; : l {: x :} ; : z {: :} ;");
    b.good(": c {: x | p q r s t u v :} x IF x 1- RECURSE ELSE 5 l THEN ; : d {: x | p q r s t u v :} x IF x 1- RECURSE ELSE z THEN ;");
    b.good("7 a");
    b.thrown("8 a", -5);
    b.good("6 c");
    b.thrown("7 c", -5);
    b.good("7 d");
    b.due("none is left", b.house.depth(0, 0, 3), 0);
    b.end();
  }

  private static void frames() {
    Bench b = new Bench("part 1: FRAMES has 40: of definitions, of nested texts, of CATCH", 4, 0);
    b.good(": t ; : e 128 0 EVALUATE ; : k ['] DUP CATCH 2DROP ; : l 0 LOAD ; : m ['] t CATCH THROW ;");
    String[][] last = {{"t", "38"}, {"e", "37"}, {"k", "37"}, {"l", "37"}, {"m", "36"}};
    for (String[] w : last) {
      int n = Integer.parseInt(w[1]);
      b.good(": r DUP IF 1- RECURSE EXIT THEN " + w[0] + " ;");
      b.data(n + " r", "0");
      b.thrown(n + 1 + " r", -5);
    }
    b.end();
  }

  private static void rowsOfTasks() {
    Bench b = new Bench("part 1: each task has rows of its own, of the same lengths", 2, 0);
    b.good(": ones 0 DO 1 LOOP ; : rs 0 DO 1 >R LOOP PAUSE ; : nest 1 0 DO DUP IF 1- RECURSE THEN LOOP ; : deep DUP IF 1- RECURSE THEN ;");
    b.good(": loc {: x | p q r s t u v :} x IF x 1- RECURSE THEN ;");
    b.good(": w 64 ones PAUSE ; ' w TASK DROP PAUSE");
    b.due("64 cells of DATA", b.house.depth(0, 1, 0), 64);
    b.due("none of task 0", b.house.depth(0, 0, 0), 0);
    b.good("PAUSE");
    task(b, "65 ones", -3);
    task(b, "15 nest", 0);
    task(b, "16 nest", -7);
    task(b, "38 deep", 0);
    task(b, "39 deep", -5);
    task(b, "7 loc", 0);
    task(b, "8 loc", -5);
    b.good(": w 0 64 0 DO 1 >R LOOP PAUSE ; ' w TASK DROP PAUSE");
    b.due("64 of RETURN", b.house.depth(0, 1, 1), 64);
    b.good("PAUSE");
    task(b, "65 rs", -5);
    b.end();
  }

  private static void task(Bench b, String text, int code) {
    b.good(": w " + text + " ; ' w TASK DROP PAUSE");
    b.due("in a task, " + text, b.house.task(0, 1), 3 - 16 * code);
  }

  /** How many steps a text does, its end with it; of a new system. */
  private static void steps(Bench b, String text, int due) {
    Bench one = new Bench("", 4, 0);
    b.due("it goes on ahead of its last step: " + text, due > 1 ? one.run(0, text, due - 1) : 1, 1);
    b.due("its last step: " + text, due > 1 ? one.house.go(0, 1) : one.run(0, text, 1), 0);
    b.due("steps of " + text, one.house.count(0, 4), due);
  }

  private static void stepsOfItems() {
    Bench b = new Bench("part 1: a step is an item of a definition, or a word of the text");
    steps(b, "1", 2);
    steps(b, "1 2 3 + -", 6);
    steps(b, ": a ; a", 2 + 1 + 1 + 1);
    steps(b, ": a 1 2. ; a", 4 + 1 + 4 + 1);
    steps(b, ": a 0 IF 1 THEN ; a", 6 + 1 + 3 + 1);
    steps(b, ": a 1 IF 1 THEN ; a", 6 + 1 + 4 + 1);
    steps(b, ": a {: x :} x ; 5 a", 4 + 2 + 3 + 1);
    steps(b, "' + 1 2 ROT EXECUTE", 6);
    steps(b, "( a b c ) .\" d e\" \\ f g", 4);
    steps(b, "5 VALUE x 6 TO x x", 6);
    steps(b, "CREATE x x", 3);
    steps(b, ": c CREATE DOES> @ ; c x x", 5 + 1 + 2 + 1 + 2 + 1);
    b.end();
  }

  private static void stepsOfEnds() {
    Bench b = new Bench("part 1: the end of a text and of what CATCH did are steps");
    steps(b, "", 1);
    steps(b, "    ", 1);
    steps(b, "1    ", 2);
    steps(b, "S\" \" EVALUATE", 4);
    steps(b, "S\"    \" EVALUATE", 4);
    steps(b, "S\" 1\" EVALUATE", 5);
    steps(b, "0 LOAD", 4);
    steps(b, "5 ' DUP CATCH", 5);
    steps(b, ": a 1 ; ' a CATCH", 3 + 2 + 2 + 1 + 1);
    steps(b, "' DUP CATCH", 3);
    steps(b, ": a 5 THROW ; ' a CATCH", 4 + 2 + 2 + 1);
    steps(b, "S\" 1\" ' EVALUATE CATCH", 1 + 1 + 1 + 1 + 1 + 1 + 1);
    b.end();
  }

  private static void stepsOfTasks() {
    Bench b = new Bench("part 1: the end of what a task did and its beginning are steps");
    steps(b, ": a ; ' a TASK PAUSE", 2 + 3 + 1 + 1 + 1 + 1);
    steps(b, "' TRUE TASK PAUSE", 3 + 1 + 1 + 1);
    steps(b, "' STOP TASK PAUSE", 3 + 1 + 1);
    steps(b, "' DUP TASK PAUSE", 3 + 1 + 1);
    steps(b, ": a PAUSE ; ' a TASK PAUSE PAUSE", 3 + 3 + 1 + 1 + 1 + 1 + 1 + 1);
    b.end();
  }

  private static void stepsOfBoxes() {
    Bench b = new Bench("part 1: the taking by a task that waited for its BOX is a step");
    steps(b, "' RECEIVE TASK PAUSE 5 1 SEND PAUSE", 3 + 1 + 4 + 2 + 1);
    steps(b, "5 0 SEND RECEIVE", 5);
    steps(b, "5 1 SEND ' RECEIVE TASK 5 1 SEND PAUSE", 3 + 2 + 3 + 1 + 2 + 1);
    b.end();
  }
}
