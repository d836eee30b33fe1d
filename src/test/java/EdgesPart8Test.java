/** Part 8, sentence by sentence: what each word takes and leaves, and what is said of words beyond Forth 2012. */
public final class EdgesPart8Test {
  private static final int NONE = -1;

  public static void main(String[] args) {
    tokensInOrder();
    tooFew();
    nothingTakenOfFew();
    noPlace();
    nothingTakenOnTheChip();
    fullButDone();
    notWhileInterpreting();
    doneWhileInterpreting();
    shifts();
    productsCut();
    timesOver();
    quotientsOfTheLowest();
    doubleQuotients();
    halves();
    twoStore();
    hereStays();
    aligned();
    charPlus();
    ofNothing();
    printing();
    printingNothingElse();
    puttingOut();
    spaces();
    pictures();
    picturesOfAllTasks();
    nameFirst();
    variables();
    chars();
    constants();
    bodies();
    immediate();
    compares();
    memory();
    Bench.exit();
  }

  private static final String NAMES = "DUP DROP SWAP OVER ROT -ROT NIP TUCK ?DUP 2DUP 2DROP 2SWAP 2OVER PICK ROLL DEPTH "
      + ">R R> R@ 2>R 2R> "
      + "+ - * / MOD /MOD */ */MOD 1+ 1- 2* 2/ NEGATE ABS MIN MAX UM* UM/MOD M* SM/REM FM/MOD S>D D+ DNEGATE "
      + "= <> < > U< 0= 0<> 0< 0> AND OR XOR INVERT LSHIFT RSHIFT WITHIN TRUE FALSE "
      + "! @ C! C@ +! 2! 2@ HERE ALLOT , C, ALIGN ALIGNED CELL+ CELLS CHAR+ CHARS FILL MOVE COUNT "
      + ". U. EMIT CR SPACE SPACES TYPE <# # #S #> HOLD SIGN BASE DECIMAL HEX >IN "
      + ": ; :NONAME CONSTANT VARIABLE VALUE CREATE DEFER MARKER IMMEDIATE ' ['] CHAR [CHAR] [ ] LITERAL POSTPONE RECURSE TO IS DOES> "
      + "EXECUTE >BODY EVALUATE S\" .\" ABORT\" ( \\ {: [: ;] "
      + "IF ELSE THEN BEGIN UNTIL WHILE REPEAT AGAIN AHEAD DO ?DO LOOP +LOOP LEAVE I J UNLOOP EXIT CASE OF ENDOF ENDCASE "
      + "CATCH THROW ABORT WORDLIST >ORDER PREVIOUS DEFINITIONS ONLY TASK PAUSE STOP SEND RECEIVE LOAD T{ -> }T";

  /** How many cells a word takes and leaves, of those that read no text and compile nothing. */
  private static final String[] CELLS = ("DUP:1:2 DROP:1:0 SWAP:2:2 OVER:2:3 ROT:3:3 -ROT:3:3 NIP:2:1 TUCK:2:3 2DUP:2:4 2DROP:2:0 2SWAP:4:4 2OVER:4:6"
      + " ?DUP:1:2 PICK:1:1 ROLL:1:0 DEPTH:0:1 +:2:1 -:2:1 *:2:1 /:2:1 MOD:2:1 /MOD:2:2 */:3:1 */MOD:3:2 1+:1:1 1-:1:1 2*:1:1 2/:1:1"
      + " NEGATE:1:1 ABS:1:1 MIN:2:1 MAX:2:1 UM*:2:2 UM/MOD:3:2 M*:2:2 SM/REM:3:2 FM/MOD:3:2 S>D:1:2 D+:4:2 DNEGATE:2:2"
      + " =:2:1 <>:2:1 <:2:1 >:2:1 U<:2:1 0=:1:1 0<>:1:1 0<:1:1 0>:1:1 AND:2:1 OR:2:1 XOR:2:1 INVERT:1:1 LSHIFT:2:1 RSHIFT:2:1"
      + " WITHIN:3:1 TRUE:0:1 FALSE:0:1 !:2:0 @:1:1 C!:2:0 C@:1:1 +!:2:0 2!:3:0 2@:1:2 HERE:0:1 ALLOT:1:0 ,:1:0 C,:1:0 ALIGN:0:0"
      + " ALIGNED:1:1 CELL+:1:1 CELLS:1:1 CHAR+:1:1 CHARS:1:1 FILL:3:0 MOVE:3:0 COUNT:1:2 .:1:0 U.:1:0 EMIT:1:0 CR:0:0 SPACE:0:0"
      + " SPACES:1:0 TYPE:2:0 <#:0:0 #:2:2 #S:2:2 #>:2:2 HOLD:1:0 SIGN:1:0 BASE:0:1 DECIMAL:0:0 HEX:0:0 >IN:0:1 EXECUTE:1:0 >BODY:1:1"
      + " EVALUATE:2:0 CATCH:1:0 THROW:1:0 WORDLIST:0:1 >ORDER:1:0 PREVIOUS:0:0 DEFINITIONS:0:0 ONLY:0:0 TASK:1:1 PAUSE:0:0 SEND:2:1"
      + " LOAD:1:0 >R:1:0 2>R:2:0").split(" ");

  private static void tokensInOrder() {
    Bench b = new Bench("part 8: the words that are there, with the tokens from 0 on, in this order", 4, 2);
    String[] names = NAMES.split(" ");
    b.due("how many", b.house.count(0, 1), names.length);
    for (int t = 0; t < names.length; t++) {
      b.due(names[t], b.find(names[t]), t);
      b.due("bytes of " + names[t], b.house.word(0, t, 6), names[t].length());
      for (int i = 0; i < names[t].length(); i++) b.due("byte of " + names[t], b.house.name(0, t, i), names[t].charAt(i));
    }
    b.end();
  }

  /** The code of a word that is done with so many cells 1000, by a definition in the text. */
  private static int code(String word, int cells) {
    Bench one = new Bench("", 4, 0);
    one.run(": w " + word + " ; : ones 0 DO 1000 LOOP ; " + cells + " ones");
    int ended = one.run("w");
    return ended == -2 ? one.house.thrown(0, 0) : 0;
  }

  private static void tooFew() {
    Bench b = new Bench("part 4: -4, DATA has too few for what a word takes");
    for (String told : CELLS) {
      String[] parts = told.split(":");
      int takes = Integer.parseInt(parts[1]);
      for (int n = 0; n <= takes; n++) {
        int code = code(parts[0], n);
        boolean picks = parts[0].equals("PICK") || parts[0].equals("ROLL");
        if (n < takes) b.due(parts[0] + " of " + n, code, -4);
        else b.due(parts[0] + " of " + n + " is not -4", code == -4, picks);
      }
    }
    for (String w : "IF UNTIL WHILE".split(" ")) {
      String text = w.equals("IF") ? "IF THEN" : w.equals("UNTIL") ? "BEGIN UNTIL" : "BEGIN WHILE REPEAT";
      b.due(w, code(text, 0), -4);
    }
    b.due("DO", code("DO LOOP", 1), -4);
    b.due("?DO", code("?DO LOOP", 1), -4);
    b.due("?DO of 2", code("?DO LOOP", 2), 0);
    b.due("+LOOP", code("1 0 DO +LOOP", 0), -4);
    b.due("OF", code("CASE OF ENDOF ENDCASE", 1), -4);
    b.due("OF of 2", code("CASE OF ENDOF ENDCASE", 2), 0);
    b.due("ENTER", code("{: x y :}", 1), -4);
    b.due("SET", code("{: | x :} TO x", 0), -4);
    b.end();
  }

  private static void nothingTakenOfFew() {
    Bench b = new Bench("part 4: nothing is taken then, with -4");
    for (String told : CELLS) {
      String[] parts = told.split(":");
      int takes = Integer.parseInt(parts[1]);
      for (int n = 1; n < takes; n++) {
        Bench one = new Bench("", 4, 0);
        String cells = "7 8 9 ".substring(0, 2 * n);
        one.run(": w " + parts[0] + " ; " + cells + "' w CATCH");
        b.due(parts[0] + " of " + n, one.data(0, 0), cells + "-4");
      }
    }
    b.end();
  }

  private static void noPlace() {
    Bench b = new Bench("part 4: -3, DATA has no place for what a word leaves");
    for (String told : CELLS) {
      String[] parts = told.split(":");
      int more = Integer.parseInt(parts[2]) - Integer.parseInt(parts[1]);
      int most = 64 - Math.max(0, more);
      b.due(parts[0] + " with " + most + " is not -3", code(parts[0], most) == -3, false);
      if (more > 0) b.due(parts[0] + " with " + (most + 1), code(parts[0], most + 1), -3);
      if (more > 1) b.due(parts[0] + " with " + (most + 2), code(parts[0], most + 2), -3);
    }
    String[][] items = {{"5", "1"}, {"5.", "2"}, {"['] DUP", "1"}, {"[CHAR] x", "1"}, {"S\" a\"", "2"}, {"[: ;]", "1"}, {"{: | x :} x", "1"}};
    for (String[] d : items) {
      int most = 64 - Integer.parseInt(d[1]);
      b.due(d[0] + " with " + most, code(d[0], most), 0);
      b.due(d[0] + " with " + (most + 1), code(d[0], most + 1), -3);
    }
    b.due("R@ is -3 ahead of -6", code("R@", 64), -3);
    b.due("2R>", code("2R>", 63), -3);
    b.due("2R> is -6 with place for both", code("2R>", 62), -6);
    b.due("I", code("I", 64), -3);
    b.due("I is -26 with place", code("I", 63), -26);
    b.due("J", code("J", 64), -3);
    b.due("?DUP of 0", code("0 ?DUP", 63), 0);
    for (String t : "5 CONSTANT q|5 VALUE q|VARIABLE q|CREATE q|: q DOES> ; CREATE r q".split("\\|")) {
      Bench one = new Bench("", 4, 0);
      one.run(": ones 0 DO 1000 LOOP ; " + t);
      String name = t.startsWith(":") ? "r" : "q";
      one.run("63 ones " + name);
      b.due("room for " + t, one.house.count(0, 12) + one.house.depth(0, 0, 0), 64);
      one.run(name);
      b.due("no room for " + t, one.house.thrown(0, 0), -3);
    }
    b.end();
  }

  private static void nothingTakenOnTheChip() {
    Bench b = new Bench("part 4: nothing is taken then, with -3 and -4, as the chip shows");
    for (String told : CELLS) {
      String[] parts = told.split(":");
      Bench one = new Bench("", 4, 0);
      one.run(": w " + parts[0] + " ;");
      if (one.house.chip(0, 172) == 0) continue;
      int takes = Integer.parseInt(parts[1]);
      int more = Integer.parseInt(parts[2]) - takes;
      for (int n = 0; n < takes; n++) {
        one.house.chip(0, 172);
        for (int i = 0; i < n; i++) one.house.chipPut(i + 5);
        b.due(parts[0] + " of " + n, one.house.chipGo(1), -2);
        b.due("cells of " + parts[0], one.house.chipTold(1), n);
        b.due("code of " + parts[0], one.house.chipTold(4), -4);
        for (int i = 0; i < n; i++) b.due("cell of " + parts[0], one.house.chipCell(i), n - 1 - i + 5);
      }
      if (more <= 0) continue;
      one.house.chip(0, 172);
      for (int i = 0; i < 64 - more + 1; i++) one.house.chipPut(i + 5);
      b.due(parts[0] + " without place", one.house.chipGo(1), -2);
      b.due("cells of " + parts[0], one.house.chipTold(1), 64 - more + 1);
      b.due("code of " + parts[0], one.house.chipTold(4), -3);
      b.due("the top of " + parts[0], one.house.chipCell(0), 64 - more + 5);
    }
    b.end();
  }

  private static void fullButDone() {
    Bench b = new Bench("part 4: with full DATA, too, what leaves no more than it takes is done");
    for (String t : (": q ;|:NONAME 1|CONSTANT q|VALUE q|VARIABLE q|CREATE q|DEFER q|MARKER q|MARKER q q|: q ; IMMEDIATE|: q [ ] ;|: q POSTPONE DUP ;"
        + "|5 VALUE q TO q|DEFER q IS q|: q [ ROT ] LITERAL ;|: q RECURSE ;|: q DOES> ;|: q ['] DUP [CHAR] x ;|EXECUTE|EVALUATE|.\" a\"|( a )|\\ a"
        + "|: q S\" a\" .\" a\" ABORT\" a\" ;|: q {: x :} x TO x ;|: q [: ;] ;|: q IF ELSE THEN BEGIN UNTIL BEGIN WHILE REPEAT BEGIN AGAIN ;"
        + "|: q AHEAD THEN DO LEAVE LOOP ?DO I J UNLOOP +LOOP EXIT CASE OF ENDOF ENDCASE ;|1 CATCH|THROW|1 >ORDER|PREVIOUS|DEFINITIONS"
        + "|ONLY|TASK|PAUSE|SEND|LOAD|T{|->|}T|: r DOES> ; CREATE q r|[|: q 5 5.").split("\\|")) {
      Bench one = new Bench("", 4, 0);
      // What needs a cell of its own takes the place of one.
      String cells = t.startsWith("5 ") || t.startsWith("1 ") ? "63 zeros" : "64 zeros";
      one.run(": zeros 0 DO 0 LOOP ; " + cells);
      one.run(t);
      b.due("code of " + t, one.house.thrown(0, 0), 0);
    }
    b.due("ABORT", code("ABORT", 64), -1);
    Bench task = new Bench("", 4, 0);
    task.good(": w 64 0 DO 0 LOOP STOP ; ' w TASK DROP PAUSE");
    b.due("STOP", task.house.task(0, 1), 3);
    b.end();
  }

  private static void notWhileInterpreting() {
    Bench b = new Bench("part 8: those that compile, done in another way while interpreting, are -14, ahead of -4 and -3, too", 4, 0);
    b.good(": ones 0 DO 1 LOOP ;");
    String all = "IF ELSE THEN BEGIN UNTIL WHILE REPEAT AGAIN AHEAD DO ?DO LOOP +LOOP LEAVE CASE OF ENDOF ENDCASE "
        + "; ['] [CHAR] LITERAL POSTPONE RECURSE DOES> ABORT\" {: [: ;]";
    for (String w : all.split(" ")) {
      b.thrown("' " + w + " EXECUTE", -14);
      b.data("5 ' " + w + " CATCH", "5 -14");
      b.thrown(": y [ ' " + w + " EXECUTE", -14);
      b.thrown(": y [ : " + w, -29);
      b.good("DEFER d ' " + w + " IS d");
      b.thrown("d", -14);
      b.good("' " + w + " TASK DROP PAUSE");
      b.due("in a task " + w, b.house.task(0, 1), 3 + 16 * 14);
      Bench full = new Bench("", 4, 0);
      full.run("DEFER d ' " + w + " IS d : ones 0 DO 1 LOOP ; 64 ones");
      full.run("d");
      b.due("with full DATA " + w, full.house.thrown(0, 0), -14);
    }
    b.end();
  }

  private static void doneWhileInterpreting() {
    Bench b = new Bench("part 8: line 2, I J UNLOOP EXIT are done then", 4, 0);
    b.data("5 ' >R EXECUTE ' R@ EXECUTE ' R> EXECUTE", "5 5");
    b.data("5 6 ' 2>R EXECUTE ' 2R> EXECUTE", "5 6");
    b.thrown("' >R EXECUTE", -4);
    b.thrown("' R> EXECUTE", -6);
    b.thrown("' R@ EXECUTE", -6);
    b.thrown("' 2R> EXECUTE", -6);
    b.thrown("' I EXECUTE", -26);
    b.thrown("' J EXECUTE", -26);
    b.thrown("' UNLOOP EXECUTE", -26);
    b.thrown("' EXIT EXECUTE", -14);
    b.data(": a 3 2 DO ['] I EXECUTE ['] UNLOOP EXECUTE ['] EXIT EXECUTE LOOP ; a", "2");
    b.end();
  }

  private static void shifts() {
    Bench b = new Bench("part 8: shifts by as many bits as a cell has, or more (without sign), are 0");
    for (int cell = 2; cell <= 4; cell++) {
      int bits = 8 * cell;
      long lowest = -(1L << (bits - 1));
      Bench one = new Bench("", cell, 0);
      one.data("1 " + (bits - 1) + " LSHIFT 1 " + bits + " LSHIFT 1 " + (bits + 1) + " LSHIFT 1 -1 LSHIFT " + lowest + " 1 LSHIFT",
          lowest + " 0 0 0 0");
      one.data("-1 " + (bits - 1) + " RSHIFT -1 " + bits + " RSHIFT -1 " + (bits + 1) + " RSHIFT -1 -1 RSHIFT", "1 0 0 0");
      one.data("-1 1 RSHIFT 5 0 RSHIFT -5 0 LSHIFT 1 32 LSHIFT 1 64 RSHIFT", (-1 - lowest) + " 5 -5 0 0");
      one.data("1 " + (1 << 14) + " LSHIFT -1 " + lowest + " RSHIFT", "0 0");
      b.due(cell + " bytes", one.house.thrown(0, 0), 0);
    }
    b.end();
  }

  private static void productsCut() {
    Bench b = new Bench("part 8: * and the like are cut to the cell");
    for (int cell = 2; cell <= 4; cell++) {
      long lowest = -(1L << (8 * cell - 1));
      long half = 1L << (4 * cell);
      Bench one = new Bench("", cell, 0);
      one.data(half + " " + half + " * " + lowest + " -1 * " + (-1 - lowest) + " 2 * " + lowest + " " + lowest + " *",
          "0 " + lowest + " -2 0");
      one.data(lowest + " NEGATE " + lowest + " ABS " + lowest + " 2* -1 2* " + lowest + " 1- 0 1-", lowest + " " + lowest + " 0 -2 " + (-1 - lowest) + " -1");
      one.data("-1 -1 UM* -1 -1 M* " + lowest + " " + lowest + " M*", "1 -2 1 0 0 " + (1L << (8 * cell - 2)));
      one.data(lowest + " S>D 5 S>D -1 0 1 0 D+ 0 " + lowest + " DNEGATE", lowest + " -1 5 0 0 1 0 " + lowest);
      b.due(cell + " bytes", one.house.thrown(0, 0), 0);
    }
    b.end();
  }

  private static void timesOver() {
    Bench b = new Bench("part 8: TIMES-OVER goes by a double, and is cut to the cell");
    for (int cell = 2; cell <= 4; cell++) {
      for (int choices = 0; choices < 2; choices++) {
        long top = (1L << (8 * cell - 1)) - 1;
        Bench one = new Bench("", cell, choices);
        one.data(top + " " + top + " " + top + " */ " + (-top - 1) + " " + (-top - 1) + " " + (-top - 1) + " */", top + " " + (-top - 1));
        one.data(top + " 2 1 */ " + (-top - 1) + " -1 1 */", "-2 " + (-top - 1));
        one.data(top + " " + top + " " + (top - 1) + " */MOD", "1 " + cut(cell, top * top / (top - 1)));
        one.data("-7 3 2 */MOD", choices == 1 ? "1 -11" : "-1 -10");
        b.due(cell + " bytes", one.house.thrown(0, 0), 0);
      }
    }
    b.end();
  }

  private static long cut(int cell, long v) {
    int spare = 64 - 8 * cell;
    return (v << spare) >> spare;
  }

  private static void quotientsOfTheLowest() {
    Bench b = new Bench("part 8: quotients of / MOD /MOD are cut, too, by 0 is -10");
    for (int cell = 2; cell <= 4; cell++) {
      for (int choices = 0; choices < 2; choices++) {
        long lowest = -(1L << (8 * cell - 1));
        Bench one = new Bench("", cell, choices);
        one.data(lowest + " -1 / " + lowest + " -1 MOD " + lowest + " -1 /MOD", lowest + " 0 0 " + lowest);
        one.data("7 " + lowest + " / 7 " + lowest + " MOD", choices == 1 ? "-1 " + (lowest + 7) : "0 7");
        for (String t : new String[] {"0 0 /", "1 0 MOD", lowest + " 0 /MOD"}) one.thrown(t, -10);
        b.due(cell + " bytes", one.house.depth(0, 0, 0), 0);
      }
    }
    b.end();
  }

  private static void doubleQuotients() {
    Bench b = new Bench("part 8: FM/MOD floors, SM/REM does not; -11 where the quotient has no place");
    for (int cell = 2; cell <= 4; cell++) {
      long top = (1L << (8 * cell - 1)) - 1;
      long low = -top - 1;
      Bench one = new Bench("", cell, 0);
      one.data(top + " 0 1 SM/REM " + low + " -1 1 SM/REM " + top + " 0 1 FM/MOD " + low + " -1 1 FM/MOD", "0 " + top + " 0 " + low + " 0 " + top + " 0 " + low);
      one.thrown(low + " 0 1 SM/REM", -11);
      one.thrown(low + " 0 1 FM/MOD", -11);
      one.thrown(top + " -1 1 SM/REM", -11);
      one.thrown(top + " -1 1 FM/MOD", -11);
      one.thrown(low + " -1 -1 SM/REM", -11);
      one.thrown("1 " + low + " " + low + " FM/MOD", -11);
      one.thrown("1 " + low + " " + low + " SM/REM", -11);
      one.thrown("0 " + low + " -1 SM/REM", -11);
      one.thrown("0 " + low + " -1 FM/MOD", -11);
      one.data("-1 -1 2 FM/MOD -1 -1 2 SM/REM 1 0 -2 FM/MOD 1 0 -2 SM/REM", "1 -1 -1 0 -1 -1 1 0");
      one.data("-1 0 -1 UM/MOD -1 -2 -1 UM/MOD", "0 1 -2 -1");
      one.thrown("0 -1 -1 UM/MOD", -11);
      one.thrown("0 1 1 UM/MOD", -11);
      one.data("-1 0 1 UM/MOD", "0 -1");
      for (String w : "UM/MOD SM/REM FM/MOD".split(" ")) one.thrown("1 1 0 " + w, -10);
      b.due(cell + " bytes", one.house.depth(0, 0, 0), 0);
    }
    b.end();
  }

  private static void halves() {
    Bench b = new Bench("part 8: 2/ keeps the sign");
    b.due("2 bytes", Bench.output(2, 0, "-32768 2/ . -1 2/ . 1 2/ . 0 2/ . 32767 2/ . -7 2/ ."), "-16384 -1 0 0 16383 -4 ");
    b.due("3 bytes", Bench.output(3, 0, "-8388608 2/ . 8388607 2/ ."), "-4194304 4194303 ");
    b.due("4 bytes", Bench.output(4, 1, "-2147483648 2/ . -3 2/ ."), "-1073741824 -2 ");
    b.end();
  }

  private static void twoStore() {
    Bench b = new Bench("part 8: 2! lays the cell on top first, nothing if not both are in SPACE");
    for (int cell = 2; cell <= 4; cell++) {
      Bench one = new Bench("", cell, 0);
      one.data("5 6 1000 2! 1000 @ 1000 CELL+ @ 1000 2@", "6 5 5 6");
      int last = 4096 - 2 * cell;
      one.good("7 8 " + last + " 2!");
      b.due("at the end", one.house.fetch(0, last, 0) * 10 + one.house.fetch(0, last + cell, 0), 87);
      one.good("0 0 " + last + " 2!");
      one.thrown("-1 -1 " + (last + 1) + " 2!", -9);
      one.thrown("-1 -1 " + (4096 - cell) + " 2!", -9);
      for (int at = last; at < 4096; at++) b.due("nothing is laid", one.house.fetch(0, at, 1), 0);
      one.thrown((last + 1) + " 2@", -9);
      b.due("over its own address", one.run("1000 1000 1000 2! 1000 2@ 2DROP"), 0);
    }
    b.end();
  }

  private static void hereStays() {
    Bench b = new Bench("part 8: ALLOT, ALIGN, HERE stays from 256 to 4096, -8");
    for (int cell = 2; cell <= 4; cell++) {
      Bench one = new Bench("", cell, 0);
      one.thrown("-1 ALLOT", -8);
      one.thrown("3841 ALLOT", -8);
      one.thrown("32767 ALLOT", -8);
      one.thrown("-32768 ALLOT", -8);
      b.due("it stays", one.house.count(0, 0), 256);
      one.good("3840 ALLOT");
      b.due("all", one.house.count(0, 0), 4096);
      one.thrown("1 ALLOT", -8);
      one.good("0 ALLOT -3840 ALLOT");
      b.due("none", one.house.count(0, 0), 256);
      one.good("3839 ALLOT");
      int up = cell == 3 ? 4095 : 4096;
      one.good("ALIGN");
      b.due("ALIGN", one.house.count(0, 0), up);
      one.good("ALIGN");
      b.due("ALIGN again", one.house.count(0, 0), up);
      if (cell == 3) one.thrown("1 ALLOT ALIGN", -8);
      if (cell == 3) b.due("it stays", one.house.count(0, 0), 4096);
      b.due("codes", one.house.depth(0, 0, 0), 0);
    }
    b.end();
  }

  private static void aligned() {
    Bench b = new Bench("part 8: ALIGN and ALIGNED go up to a multiple of the cell's bytes");
    for (int cell = 2; cell <= 4; cell++) {
      Bench one = new Bench("", cell, 0);
      for (int at = 0; at < 14; at++) {
        int due = (at + cell - 1) / cell * cell;
        one.data(at + " ALIGNED", "" + due);
        one.good(256 + at + " HERE - ALLOT ALIGN");
        b.due("ALIGN at " + at, one.house.count(0, 0), (256 + at + cell - 1) / cell * cell);
      }
      b.due("going round", one.run("-1 ALIGNED"), 0);
      b.due("going round", one.house.cell(0, 0, 0, 0), cell == 3 ? -1 : 0);
      one.good("DROP");
      one.data("5 CELLS -1 CELLS 10 CELL+", 5 * cell + " " + -cell + " " + (10 + cell));
    }
    b.end();
  }

  private static void charPlus() {
    Bench b = new Bench("part 8: CHAR+ adds 1, CHARS does nothing");
    b.due("2 bytes", Bench.output(2, 0, "5 CHAR+ . 32767 CHAR+ . -1 CHAR+ . 5 CHARS . -32768 CHARS ."), "6 -32768 0 5 -32768 ");
    b.due("CHARS takes and leaves one", Bench.output(2, 0, "' CHARS CATCH ."), "-4 ");
    b.end();
  }

  private static void ofNothing() {
    Bench b = new Bench("part 8: FILL, MOVE, TYPE of nothing look at no address", 2, 0);
    for (String at : "4095 4096 4097 -1 -32768".split(" ")) {
      b.good(at + " 0 7 FILL " + at + " 1000 0 MOVE 1000 " + at + " 0 MOVE " + at + " 0 TYPE");
      if (at.equals("4095")) continue;
      b.thrown(at + " 1 7 FILL", -9);
      b.thrown(at + " 1000 1 MOVE", -9);
      b.thrown("1000 " + at + " 1 MOVE", -9);
      b.thrown(at + " 1 TYPE", -9);
    }
    b.good("4095 1 7 FILL 4095 1000 1 MOVE 1000 4095 1 MOVE 4095 1 TYPE 0 4096 TYPE 0 0 4096 MOVE");
    b.thrown("4095 2 7 FILL", -9);
    b.thrown("0 4097 TYPE", -9);
    b.thrown("0 -1 TYPE", -9);
    b.thrown("0 -1 7 FILL", -9);
    b.thrown("1 0 4096 MOVE", -9);
    b.thrown("0 1 4096 MOVE", -9);
    b.due("nothing of FILL", b.house.fetch(0, 4094, 1), 0);
    b.end();
  }

  private static void printing() {
    Bench b = new Bench("part 8: U. and . print by BASE, -40, digits above 9 as A .. Z, a blank behind");
    b.due("2 bytes", Bench.output(2, 0, "-32768 . 32767 . -1 U. -32768 U. 0 . 0 U. -5 ."), "-32768 32767 65535 32768 0 0 -5 ");
    b.due("3 bytes", Bench.output(3, 0, "-8388608 . -1 U."), "-8388608 16777215 ");
    b.due("4 bytes", Bench.output(4, 0, "-2147483648 . -1 U."), "-2147483648 4294967295 ");
    b.due("base 2", Bench.output(4, 0, "2 BASE ! -10000000000000000000000000000000 . 101 U."), "-10000000000000000000000000000000 101 ");
    b.due("base 36", Bench.output(4, 0, "36 BASE ! zz . -ZZ . 0 ."), "ZZ -ZZ 0 ");
    b.due("base 16", Bench.output(4, 0, "HEX abcdef . -1 U."), "ABCDEF FFFFFFFF ");
    Bench one = new Bench("", 4, 0);
    for (String base : "0 1 37 -2".split(" ")) {
      one.good("#" + base + " #0 !");
      one.thrown("#5 .", -40);
      one.thrown("#5 U.", -40);
      one.thrown(".", -4);
    }
    b.due("nothing is put out", one.out(0), "");
    b.end();
  }

  private static void printingNothingElse() {
    Bench b = new Bench("part 8: U. and . write nothing into SPACE", 4, 0);
    b.good("<# 5 HOLD 5 HOLD");
    String before = spaceOf(b);
    b.good("-123456 . -1 U. 5 BASE @ DROP . ");
    b.due("SPACE", spaceOf(b), before);
    b.data("5 . 0. #>", "126 2");
    b.end();
  }

  private static String spaceOf(Bench b) {
    StringBuilder all = new StringBuilder();
    for (int i = 0; i < 4096; i++) all.append(i < 4 || i > 7 ? b.house.fetch(0, i, 1) : 0).append(' ');
    return all.toString();
  }

  private static void puttingOut() {
    Bench b = new Bench("part 8: EMIT the lowest byte, CR byte 10, SPACE a blank, TYPE what lies there", 2, 0);
    b.good("0 EMIT 255 EMIT 256 EMIT 321 EMIT -1 EMIT CR SPACE");
    int[] due = {0, 255, 0, 65, 255, 10, 32};
    for (int i = 0; i < due.length; i++) b.due("byte " + i, b.house.out(0, i), due[i]);
    b.due("all", b.house.count(0, 3), due.length);
    b.good("200 1000 C! 1000 1 TYPE");
    b.due("TYPE", b.house.out(0, due.length), 200);
    b.end();
  }

  private static void spaces() {
    Bench b = new Bench("part 8: SPACES, as many as it takes, if above 0", 4, 0);
    b.good("0 SPACES -1 SPACES -2147483648 SPACES");
    b.due("none", b.house.count(0, 3), 0);
    b.good("1 SPACES 65 EMIT 2 SPACES");
    b.due("three", b.out(0), " A  ");
    b.good("2147483642 SPACES");
    b.due("as many", b.house.count(0, 3), 2147483646);
    b.good("1 SPACES");
    b.due("as many", b.house.count(0, 3), 2147483647);
    b.good("1 SPACES 65 EMIT 0 4096 TYPE 5 .");
    b.due("no more are counted", b.house.count(0, 3), 2147483647);
    b.due("Bytes that are kept", b.house.out(0, 2999), 32);
    b.due("Bytes that are not", b.house.out(0, 3000), NONE);
    b.end();
  }

  private static void pictures() {
    Bench b = new Bench("part 8: <# begins at 128, where it is at first, downwards to 16, -17; # by BASE, -40");
    for (int cell = 2; cell <= 4; cell++) {
      Bench one = new Bench("", cell, 0);
      one.data("0. #>", "128 0");
      one.data("65 HOLD 0. #>", "127 1");
      one.data("66 HOLD 0. #>", "126 2");
      one.data("<# 0. #>", "128 0");
      one.good(": holds 0 DO 42 HOLD LOOP ; <# 112 holds");
      one.thrown("42 HOLD", -17);
      one.thrown("0. #", -17);
      one.thrown("0. #S", -17);
      one.thrown("-1 SIGN", -17);
      one.data("0 SIGN 0. #>", "16 112");
      b.due("below", one.house.fetch(0, 15, 1), 0);
      one.good("<# 111 holds");
      one.thrown("12. #S", -17);
      b.due("a digit was held", one.house.fetch(0, 16, 1), '2');
      one.good("<# 321 HOLD");
      b.due("the lowest byte", one.house.fetch(0, 127, 1), 65);
      for (String base : "0 1 37 -1".split(" ")) {
        one.good("#" + base + " #0 !");
        one.thrown("#1. #", -40);
        one.thrown("#1. #S", -40);
      }
      b.due("due", one.house.depth(0, 0, 0), 0);
    }
    b.due("2 bytes", Bench.output(2, 0, "<# -1. #S #> TYPE <# 0. #S #> TYPE <# 12. # #> TYPE"), "429496729502");
    b.due("4 bytes", Bench.output(4, 0, "<# -1. #S #> TYPE SPACE 2 BASE ! <# -1. #S #> NIP HEX ."), "18446744073709551615 40 ");
    b.due("base 36", Bench.output(4, 0, "36 BASE ! <# zy. #S -1 SIGN #> TYPE"), "-ZY");
    b.due("what # leaves", Bench.output(2, 0, "<# 65536. # . ."), "0 6553 ");
    b.end();
  }

  private static void picturesOfAllTasks() {
    Bench b = new Bench("part 8: one place for all tasks to put numbers together, that throws leave", 4, 0);
    b.good("<# 65 HOLD");
    b.thrown("1 THROW", 1);
    b.good(": w 66 HOLD PAUSE 67 HOLD 1 THROW ; ' w TASK DROP PAUSE");
    b.data("0. #>", "126 2");
    b.good("PAUSE");
    b.data("0. #>", "125 3");
    b.due("bytes", b.house.fetch(0, 125, 1) * 10000 + b.house.fetch(0, 126, 1) * 100 + b.house.fetch(0, 127, 1), 676665);
    b.good(": c 68 HOLD 5 THROW ; ' c CATCH DROP");
    b.data("0. #>", "124 4");
    b.end();
  }

  private static void nameFirst() {
    Bench b = new Bench("part 8: CONSTANT and the like read the name first", 4, 0);
    b.good(": ones 0 DO 1 LOOP ;");
    for (String w : "CONSTANT VALUE".split(" ")) {
      b.thrown(w, -16);
      b.thrown(w + " abcdefghijklmnopqrstuvwxy", -19);
      b.thrown(w + " abc", -4);
      b.due("behind the name", b.house.thrown(0, 1), w.length() + 4);
    }
    for (String w : "' CHAR".split(" ")) {
      b.thrown("64 ones " + w, -16);
      b.thrown("64 ones " + w + " DUP", -3);
      b.due("behind the name", b.house.thrown(0, 1), 8 + w.length() + 4);
      b.good("63 ones " + w + " DUP");
      b.thrown("1 THROW", -3);
    }
    b.due("no word", b.house.count(0, 1), 173);
    b.end();
  }

  private static void variables() {
    Bench b = new Bench("part 8: CREATE and VARIABLE align nothing, a VARIABLE is 0");
    for (int cell = 2; cell <= 4; cell++) {
      Bench one = new Bench("", cell, 0);
      one.good("1 ALLOT CREATE a VARIABLE v CREATE c 1 ALLOT VARIABLE w");
      b.due("CREATE", one.house.word(0, 172, 3), 257);
      b.due("VARIABLE", one.house.word(0, 173, 3), 257);
      b.due("behind", one.house.word(0, 174, 3), 257 + cell);
      b.due("not aligned", one.house.word(0, 175, 3), 258 + cell);
      one.good("-1 HERE ! -1 HERE CELL+ ! VARIABLE x");
      b.due("0", one.house.fetch(0, one.house.word(0, 176, 3), 0), 0);
      b.due("nothing behind it", one.house.fetch(0, one.house.count(0, 0), 0), -1);
    }
    b.end();
  }

  private static void chars() {
    Bench b = new Bench("part 8: CHAR, the first byte of a word, -16", 4, 0);
    b.data("CHAR a CHAR bcd CHAR " + (char) 255 + "x", "97 98 255");
    b.thrown("CHAR", -16);
    b.thrown("CHAR   ", -16);
    b.data("CHAR abcdefghijklmnopqrstuvwxyzabc", "97");
    b.thrown(": w [CHAR]", -16);
    b.end();
  }

  private static void constants() {
    Bench b = new Bench("part 8: CONSTANT, VALUE, the name (-16, -19), -4, -8 (the cell stays)", 4, 0);
    b.good(": mk S\" CREATE x\" EVALUATE ; : mks 0 DO mk LOOP ; " + Bench.TRY + "184 mks");
    b.data("5 ' CONSTANT t", "5 -16");
    b.data("5 ' VALUE t abcdefghijklmnopqrstuvwxy", "5 -19");
    b.data("' CONSTANT t q", "-4");
    b.good("6 CONSTANT last");
    b.due("360", b.house.count(0, 1), 360);
    b.data("5 ' CONSTANT t q", "5 -8");
    b.data("5 ' VALUE t q", "5 -8");
    b.data("' VALUE t q", "-4");
    b.data("last", "6");
    b.end();
  }

  private static void bodies() {
    Bench b = new Bench("part 8: >BODY of CREATE and VARIABLE, else -31", 4, 0);
    b.good("CREATE c 5 , VARIABLE v : d DOES> ; CREATE e d 5 CONSTANT k 5 VALUE q DEFER f MARKER m");
    b.data("' c >BODY ' v >BODY ' e >BODY", "256 260 264");
    for (String w : "d k q f m DUP EXIT".split(" ")) b.thrown("' " + w + " >BODY", -31);
    b.thrown("9999 >BODY", -9);
    b.thrown(">BODY", -4);
    b.end();
  }

  private static void immediate() {
    Bench b = new Bench("part 8: IMMEDIATE, the latest word with a name, -16 without one", 4, 0);
    b.thrown("IMMEDIATE", -16);
    b.thrown(":NONAME ; IMMEDIATE", -16);
    b.thrown("IMMEDIATE", -16);
    b.good(": a ; :NONAME [: ;] DROP ; DROP IMMEDIATE");
    b.due("a", b.house.word(0, b.find("a"), 1), 1);
    for (int t = 172; t < b.house.count(0, 1); t++) b.due("token " + t, b.house.word(0, t, 1), t == b.find("a") ? 1 : 0);
    b.good("5 CONSTANT c IMMEDIATE IMMEDIATE : d [ IMMEDIATE ] ;");
    b.due("c", b.house.word(0, b.find("c"), 1), 1);
    b.due("d", b.house.word(0, b.find("d"), 1), 1);
    b.end();
  }

  private static void compares() {
    Bench b = new Bench("part 8: compares, at the ends of a cell");
    for (int cell = 2; cell <= 4; cell++) {
      long top = (1L << (8 * cell - 1)) - 1;
      long low = -top - 1;
      Bench one = new Bench("", cell, 0);
      one.data(low + " " + top + " < " + top + " " + low + " < " + low + " " + top + " > " + top + " " + low + " >", "-1 0 0 -1");
      one.data(low + " " + top + " U< " + top + " " + low + " U< -1 0 U< 0 -1 U< 0 0 U<", "0 -1 0 -1 0");
      one.data(low + " 0< " + top + " 0< 0 0< " + low + " 0> " + top + " 0> 0 0>", "-1 0 0 0 -1 0");
      one.data(low + " " + top + " MIN " + low + " " + top + " MAX", low + " " + top);
      one.data("5 5 5 WITHIN 5 5 6 WITHIN 6 5 6 WITHIN 4 5 6 WITHIN", "0 -1 0 0");
      one.data(top + " " + top + " " + low + " WITHIN " + low + " " + top + " " + low + " WITHIN 0 " + low + " " + top + " WITHIN -1 0 -1 WITHIN 5 0 -1 WITHIN",
          "-1 0 -1 0 -1");
      one.data("0 INVERT -1 INVERT " + top + " INVERT " + low + " -1 XOR", "-1 0 " + low + " " + top);
      b.due(cell + " bytes", one.house.thrown(0, 0), 0);
    }
    b.end();
  }

  private static void memory() {
    Bench b = new Bench("part 8: C! the lowest byte, C@ without sign, +! goes round, MOVE over itself, COUNT", 2, 0);
    b.data("511 1000 C! 1000 C@ -1 1001 C! 1001 C@", "255 255");
    b.data("32767 1000 ! 1 1000 +! 1000 @ -1 1000 +! 1000 @", "-32768 32767");
    b.good("1 1000 C! 2 1001 C! 3 1002 C! 1000 1001 3 MOVE");
    b.due("up", b.house.fetch(0, 1001, 1) * 100 + b.house.fetch(0, 1002, 1) * 10 + b.house.fetch(0, 1003, 1), 123);
    b.good("1001 1000 3 MOVE");
    b.due("down", b.house.fetch(0, 1000, 1) * 100 + b.house.fetch(0, 1001, 1) * 10 + b.house.fetch(0, 1002, 1), 123);
    b.good("1010 3 263 FILL");
    b.due("the lowest byte", b.house.fetch(0, 1009, 1) * 1000 + b.house.fetch(0, 1010, 1) * 100 + b.house.fetch(0, 1012, 1) * 10 + b.house.fetch(0, 1013, 1), 770);
    b.data("200 1000 C! 1000 COUNT 4095 COUNT", "1001 200 4096 0");
    b.data("HERE 258 , HERE 1- C@ 5 C, HERE 1- C@", "256 1 5");
    b.end();
  }
}
