/** Part 4, sentence by sentence: loops, throwing and catching, MARKER, lists, tasks, the tester. */
public final class EdgesPart4Test {
  private static final int NONE = -1;

  public static void main(String[] args) {
    takenThenThrown();
    pickAndRoll();
    fullRows();
    ofThisFrame();
    doAndQuestionDo();
    loopsGoRound();
    plusLoopEdges();
    plusLoopByNothing();
    innerIndexes();
    of();
    exitWhere();
    exitOrder();
    tokensThatAreNone();
    taskTokens();
    itemsThatAreNone();
    localsThatAreNone();
    defers();
    catchTakes();
    catchEnds();
    throwGoes();
    throwOut();
    takenBack();
    markerGoesBack();
    markerKeeps();
    markerRefused();
    lists();
    order();
    definitions();
    taskNumbers();
    pauses();
    ends();
    stops();
    sends();
    receives();
    noneReady();
    tester();
    testerFewer();
    executesOfExecute();
    Bench.exit();
  }

  /** What a word leaves where it throws, caught: DATA then, the code on top. */
  private static void leaves(Bench b, String cells, String word, String due) {
    b.data(cells + " ' " + word + " CATCH", due);
  }

  private static void takenThenThrown() {
    Bench b = new Bench("part 4: what throws otherwise has taken what it takes and left nothing", 4, 0);
    leaves(b, "9 1 0", "/", "9 0 0 -10");
    leaves(b, "9 1 0", "MOD", "9 0 0 -10");
    leaves(b, "9 1 0", "/MOD", "9 0 0 -10");
    leaves(b, "9 1 1 0", "*/", "9 0 0 0 -10");
    leaves(b, "9 1 1 0", "*/MOD", "9 0 0 0 -10");
    leaves(b, "9 1 1 0", "UM/MOD", "9 0 0 0 -10");
    leaves(b, "9 1 1 0", "SM/REM", "9 0 0 0 -10");
    leaves(b, "9 1 1 0", "FM/MOD", "9 0 0 0 -10");
    leaves(b, "9 1 1 1", "UM/MOD", "9 0 0 0 -11");
    leaves(b, "9 1 1 1", "SM/REM", "9 0 0 0 -11");
    leaves(b, "9 1 1 1", "FM/MOD", "9 0 0 0 -11");
    leaves(b, "9 5 4093", "!", "9 0 0 -9");
    leaves(b, "9 4093", "@", "9 0 -9");
    leaves(b, "9 5 4096", "C!", "9 0 0 -9");
    leaves(b, "9 4096", "C@", "9 0 -9");
    leaves(b, "9 5 4093", "+!", "9 0 0 -9");
    leaves(b, "9 5 6 4089", "2!", "9 0 0 0 -9");
    leaves(b, "9 4089", "2@", "9 0 -9");
    leaves(b, "9 4095 2 1", "FILL", "9 0 0 0 -9");
    leaves(b, "9 4095 1 2", "MOVE", "9 0 0 0 -9");
    leaves(b, "9 4096", "COUNT", "9 0 -9");
    leaves(b, "9 9999", "ALLOT", "9 0 -8");
    leaves(b, "9 4095 2", "TYPE", "9 0 0 -9");
    leaves(b, "9 9999", "EXECUTE", "9 0 -9");
    leaves(b, "9 9999", ">BODY", "9 0 -9");
    leaves(b, "9 0", ">BODY", "9 0 -31");
    leaves(b, "9 9999", "CATCH", "9 0 -9");
    leaves(b, "9 9999", "TASK", "9 0 -9");
    leaves(b, "9 9999 5", "EVALUATE", "9 0 0 -9");
    leaves(b, "9 8", "LOAD", "9 0 -35");
    leaves(b, "9 5", "THROW", "9 0 5");
    leaves(b, "9 3", ">ORDER", "9 0 -24");
    leaves(b, "9 5", "R>", "9 5 -6");
    leaves(b, "9", "I", "9 -26");
    leaves(b, "9", "STOP", "9 -24");
    leaves(b, "9 #8 #1 #0 !", ".", "9 0 -40");
    leaves(b, "#9 #5", "U.", "9 0 -40");
    leaves(b, "#9 #5 #6", "#", "9 0 0 -40");
    leaves(b, "#9 #5 #6", "#S", "9 0 0 -40");
    b.good("#10 #0 ! : holds 0 DO 42 HOLD LOOP ; <# 112 holds");
    leaves(b, "9 5", "HOLD", "9 0 -17");
    leaves(b, "9 -5", "SIGN", "9 0 -17");
    leaves(b, "9 5", "SIGN", "9 0");
    leaves(b, "9 5 6", "#", "9 0 0 -17");
    leaves(b, "9 5 6", "#S", "9 0 0 -17");
    b.good("4096 HERE - ALLOT");
    leaves(b, "9 5", ",", "9 0 -8");
    leaves(b, "9 5", "C,", "9 0 -8");
    b.end();
  }

  private static void pickAndRoll() {
    Bench b = new Bench("part 4: PICK and ROLL take their number, then look for so many cells and one more, -4", 2, 0);
    b.data("5 6 7 0 PICK", "5 6 7 7");
    b.data("5 6 7 2 PICK", "5 6 7 5");
    leaves(b, "5 6 7 3", "PICK", "5 6 7 0 -4");
    b.data("5 6 7 2 ROLL", "6 7 5");
    b.data("5 6 7 0 ROLL", "5 6 7");
    leaves(b, "5 6 7 3", "ROLL", "5 6 7 0 -4");
    leaves(b, "5 6 7 -1", "PICK", "5 6 7 0 -4");
    leaves(b, "5 6 7 -1", "ROLL", "5 6 7 0 -4");
    leaves(b, "5 6 7 -32768", "ROLL", "5 6 7 0 -4");
    leaves(b, "", "PICK", "-4");
    leaves(b, "", "ROLL", "-4");
    leaves(b, "7", "PICK", "0 -4");
    leaves(b, "7", "ROLL", "0 -4");
    b.good(": ones 0 DO 1 LOOP ; 63 ones 62 PICK");
    b.due("in full DATA", b.house.depth(0, 0, 0), 64);
    b.good("1- ROLL");
    b.due("ROLL of what is there", b.house.depth(0, 0, 0), 63);
    b.end();
  }

  private static void fullRows() {
    Bench b = new Bench("part 4: -5 is RETURN, LOCALS, FRAMES or texts full", 4, 0);
    b.caught("7", "64 0 DO 1 >R LOOP 2 >R", "7 -5");
    b.caught("7", "63 0 DO 1 >R LOOP 2 3 2>R", "7 -5");
    b.good(": l {: x | p q r s t u v :} x IF x 1- RECURSE THEN ; : s 8 l ; : d DUP IF 1- RECURSE THEN ; : e 39 d ;");
    b.data("7 ' s CATCH", "7 -5");
    b.data("7 ' e CATCH", "7 -5");
    b.good(": r 128 6 EVALUATE ; S\" r     \" 2DROP");
    b.data("7 ' r CATCH", "7 -5");
    b.due("texts as they were", b.house.count(0, 15), 0);
    b.due("rows as they were", b.house.depth(0, 0, 1) + b.house.depth(0, 0, 3) + b.house.depth(0, 0, 4), 0);
    b.end();
  }

  private static void ofThisFrame() {
    Bench b = new Bench("part 4: -6 is RETURN has none of this frame, -26 no loop of this frame", 4, 0);
    b.good(": from R> ; : copy R@ ; : two 2R> ; : one 5 >R 2R> ; : in I ; : out J ; : un UNLOOP ;");
    for (String w : "from copy two".split(" ")) {
      b.thrown(w, -6);
      b.thrown(": x 1 >R 2 >R " + w + " ; x", -6);
      b.thrown(": x 1 2 2>R ['] " + w + " EXECUTE ; x", -6);
    }
    b.thrown("one", -6);
    b.thrown(": x 1 >R one ; x", -6);
    for (String w : "in un out".split(" ")) {
      b.thrown(w, -26);
      b.thrown(": x 1 0 DO 1 0 DO " + w + " LOOP LOOP ; x", -26);
    }
    b.thrown(": x 1 0 DO J LOOP ; x", -26);
    b.thrown(": y 1 0 DO J LOOP ; : x 1 0 DO y LOOP ; x", -26);
    b.data(": x 8 >R ['] R@ EXECUTE R> ; x", "8 8");
    b.data(": x 8 >R ['] R@ CATCH R> ; x", "-6 8");
    b.data(": x 1 0 DO ['] I EXECUTE ['] I CATCH LOOP ; x", "0 -26");
    for (String t : "LOOP|1 +LOOP|LEAVE LOOP".split("\\|")) b.thrown(": x 1 0 DO UNLOOP " + t + " ; x", -26);
    b.thrown(": x 1 0 DO UNLOOP UNLOOP LOOP ; x", -26);
    b.thrown(": z 1 0 DO UNLOOP LOOP ; : x 1 0 DO z LOOP ; x", -26);
    leaves(b, "5", "un", "5 -26");
    b.caught("5", "1 0 DO UNLOOP 3 +LOOP", "5 -26");
    b.caught("", "1 0 DO UNLOOP +LOOP", "-4");
    b.end();
  }

  private static void doAndQuestionDo() {
    Bench b = new Bench("part 4: DO takes limit and start, ?DO does nothing of it if they are the same", 2, 0);
    b.data(": a DO I LOOP ; 3 1 a", "1 2");
    b.data(": c ?DO I LOOP 9 ; 3 3 c 0 0 c -1 -1 c", "9 9 9");
    b.data("4 3 c", "3 9");
    b.data(": d DO I UNLOOP EXIT LOOP ; 3 3 d 0 5 d", "3 5");
    b.thrown(": e DO LOOP ; 1 e", -4);
    b.thrown(": e ?DO LOOP ; 1 e", -4);
    b.thrown("e", -4);
    b.good(": f DO 7 BEGIN AGAIN LOOP ;");
    b.due("limit and start", b.run(0, "20 10 f", 50), 1);
    b.due("INDEX", b.house.cell(0, 0, 2, 0), 10);
    b.due("limit", b.house.cell(0, 0, 2, 1), 20);
    b.end();
  }

  /** How often a loop goes, and INDEX as it is done last; it stops at 100. */
  private static String turns(int cell, String limit, String start, String step) {
    return Bench.output(cell, 0, "VARIABLE n VARIABLE l : x DO 1 n +! I l ! n @ 100 = IF LEAVE THEN " + step + " ; "
        + limit + " " + start + " x n @ . l @ .");
  }

  private static void loopsGoRound() {
    Bench b = new Bench("part 4: LOOP adds 1 to the INDEX, and is left where it comes to the limit, going round");
    for (int cell = 2; cell <= 4; cell++) {
      long top = (1L << (8 * cell - 1)) - 1;
      b.due("3", turns(cell, "3", "0", "LOOP"), "3 2 ");
      b.due("1", turns(cell, "1", "0", "LOOP"), "1 0 ");
      b.due("the same goes on", turns(cell, "0", "0", "LOOP"), "100 99 ");
      b.due("beyond goes on", turns(cell, "0", "5", "LOOP"), "100 104 ");
      b.due("over the highest", turns(cell, "" + (-top - 1), "" + top, "LOOP"), "1 " + top + " ");
      b.due("over the highest", turns(cell, "" + (-top), "" + top, "LOOP"), "2 " + (-top - 1) + " ");
      b.due("to the highest", turns(cell, "" + top, "" + (top - 2), "LOOP"), "2 " + (top - 1) + " ");
      b.due("over 0", turns(cell, "1", "-1", "LOOP"), "2 0 ");
      b.due("half of all", turns(cell, "" + (-top - 1), "0", "LOOP"), "100 99 ");
    }
    b.end();
  }

  private static void plusLoopEdges() {
    Bench b = new Bench("part 4: +LOOP is left where x and what is added are no cell");
    for (int cell = 2; cell <= 4; cell++) {
      long top = (1L << (8 * cell - 1)) - 1;
      b.due("to the limit", turns(cell, "10", "0", "5 +LOOP"), "2 5 ");
      b.due("not to it", turns(cell, "11", "0", "5 +LOOP"), "3 10 ");
      b.due("down, over it", turns(cell, "0", "10", "-5 +LOOP"), "3 0 ");
      b.due("down, beside it", turns(cell, "1", "10", "-5 +LOOP"), "2 5 ");
      b.due("down from it", turns(cell, "0", "0", "-5 +LOOP"), "1 0 ");
      b.due("down from above it", turns(cell, "-1", "0", "-1 +LOOP"), "2 -1 ");
      b.due("up from it", turns(cell, "0", "0", top + " +LOOP"), "3 -2 ");
      b.due("the lowest is added at it", turns(cell, "0", "0", (-top - 1) + " +LOOP"), "1 0 ");
      b.due("the lowest is added beside it", turns(cell, "0", "-1", (-top - 1) + " +LOOP"), "2 " + top + " ");
      b.due("the highest is added", turns(cell, "1", "0", top + " +LOOP"), "1 0 ");
      b.due("the highest is added", turns(cell, "" + top, "0", top + " +LOOP"), "1 0 ");
      b.due("over the highest", turns(cell, "" + (-top + 1), "" + (top - 1), "2 +LOOP"), "2 " + (-top - 1) + " ");
    }
    b.end();
  }

  private static void plusLoopByNothing() {
    Bench b = new Bench("part 4: +LOOP by 0 goes on", 2, 0);
    b.due("at the limit", turns(2, "0", "0", "0 +LOOP"), "100 0 ");
    b.due("beside it", turns(2, "0", "-1", "0 +LOOP"), "100 -1 ");
    b.due("behind it", turns(2, "-1", "0", "0 +LOOP"), "100 0 ");
    b.thrown(": a 1 0 DO +LOOP ; a", -4);
    b.data(": c 5 1 0 DO 1 +LOOP ; c", "5");
    b.end();
  }

  private static void innerIndexes() {
    Bench b = new Bench("part 4: I and J are the INDEX of the innermost loop and of the next one", 4, 0);
    b.data(": a 12 10 DO 22 20 DO J I LOOP LOOP ; a", "10 20 10 21 11 20 11 21");
    b.data(": c 11 10 DO 21 20 DO 31 30 DO J I LOOP I LOOP I LOOP ; c", "20 30 20 10");
    b.data(": d 11 10 DO 21 20 DO LEAVE LOOP I LOOP ; d", "10");
    b.end();
  }

  private static void of() {
    Bench b = new Bench("part 4: OF takes a cell, if it is the one below it, that goes, too, else it jumps", 4, 0);
    b.data(": a CASE 5 OF 1 ENDOF 9 SWAP ENDCASE ; 5 a 6 a", "1 9");
    b.data(": c CASE 5 OF DEPTH ENDOF DEPTH SWAP ENDCASE ; 7 5 c", "7 1");
    b.data("7 6 c", "7 2");
    b.thrown(": d CASE OF ENDOF ENDCASE ; 1 d", -4);
    b.thrown("d", -4);
    leaves(b, "5", "d", "5 -4");
    b.data("3 3 d", "");
    b.end();
  }

  private static void exitWhere() {
    Bench b = new Bench("part 4: EXIT where the latest frame is none of a definition is -14", 4, 0);
    b.thrown("' EXIT EXECUTE", -14);
    b.data("' EXIT CATCH", "-14");
    b.thrown("S\" ' EXIT EXECUTE\" EVALUATE", -14);
    b.thrown(": a S\" ' EXIT EXECUTE\" EVALUATE ; a", -14);
    b.data(": c ['] EXIT CATCH 5 ; c", "-14 5");
    b.good("' EXIT TASK DROP PAUSE");
    b.due("in a task", b.house.task(0, 1), 3 + 16 * 14);
    b.data(": d ['] EXIT EXECUTE 5 ; d 6", "6");
    b.end();
  }

  private static void exitOrder() {
    Bench b = new Bench("part 4: at EXIT -25 comes ahead of -26", 4, 0);
    b.thrown(": a 1 >R ; a", -25);
    b.thrown(": a 1 0 DO EXIT LOOP ; a", -26);
    b.thrown(": a 1 0 DO 1 >R EXIT LOOP ; a", -25);
    b.thrown(": a 1 >R EXIT R> DROP ; a", -25);
    b.data(": a 1 >R R> DROP 1 0 DO UNLOOP EXIT LOOP ; a 3", "3");
    b.thrown(": c DOES> ; : d >R DOES> ; CREATE e 5 d", -25);
    b.thrown(": f 1 0 DO [ ' EXIT ] LITERAL EXECUTE LOOP ; f", -26);
    b.thrown(": g EXECUTE ; 1 ' >R g", -25);
    leaves(b, "4", "a", "4 0");
    b.end();
  }

  private static void tokensThatAreNone() {
    Bench b = new Bench("part 4: a token that is none is -9", 4, 0);
    b.good("DEFER d");
    for (String t : new String[] {"" + 173, "174", "360", "2147483647", "-1", "-2147483648"}) {
      b.thrown(t + " EXECUTE", -9);
      b.thrown(t + " CATCH", -9);
      b.thrown(t + " TASK", -9);
      b.thrown(t + " >BODY", -9);
      b.thrown(t + " IS d", -9);
    }
    b.thrown("172 EXECUTE", -24);
    b.data("5 0 EXECUTE", "5 5");
    b.good("DEFER e MARKER m : w 5 ; ' w IS e m");
    b.thrown("e", -9);
    b.data("' e CATCH", "-9");
    b.end();
  }

  private static void taskTokens() {
    Bench b = new Bench("part 4: a task's token is looked at as it begins, too");
    b.house.system(4, 0);
    b.thrown(": a [ CREATE c ' c TASK DROP ] foo", -13);
    b.due("READY", b.house.task(0, 1), 1);
    b.good("PAUSE");
    b.due("-9", b.house.task(0, 1), 3 + 16 * 9);
    b.thrown(": a [ CREATE c ' c TASK DROP ] foo", -13);
    b.good(": first 6 . ; : second 7 . ; PAUSE");
    b.due("another one of that token", b.out(0), "7 ");
    b.end();
  }

  private static void itemsThatAreNone() {
    Bench b = new Bench("part 4: an item that is none, below 0 or behind the last one, is -9 as it is come to", 4, 0);
    int steps = b.house.count(0, 4);
    b.thrown(": a 1 2 [ 172 EXECUTE", -9);
    b.due("steps", b.house.count(0, 4) - steps, 1 + 2 + 1 + 1 + 1 + 2 + 1);
    b.thrown(": a 3 0 DO LEAVE [ 172 EXECUTE", -9);
    b.data(": z 7 ; : a AHEAD [ 173 EXECUTE ] THEN ; ", "7");
    b.thrown(": e 1 0 DO LEAVE [ 174 CATCH THROW", -9);
    b.good("CREATE y");
    b.thrown(":NONAME 1 2 3 DOES> 1 [ " + b.house.count(0, 1) + " EXECUTE ] foo", -13);
    b.thrown("y", -9);
    b.good(": fill 1 2 3 4 5 ;");
    b.data("y", b.house.word(0, b.find("y"), 3) + " 5");
    b.end();
  }

  private static void localsThatAreNone() {
    Bench b = new Bench("part 4: GET, SET of a LOCAL that the frame has not is -9", 4, 0);
    b.good("CREATE y");
    b.thrown(":NONAME DOES> 1 [ " + b.house.count(0, 1) + " EXECUTE ] foo", -13);
    int place = b.house.count(0, 2);
    b.due("behind its DOES", b.house.word(0, 172, 5), place + 1);
    b.good("MARKER m : n {: x :} x ;");
    b.due("a GET", b.house.item(0, place + 1, 0), 12);
    b.thrown("y", -9);
    leaves(b, "4", "y", "4 -9");
    b.good(": k {: p :} y p ; : ones 0 DO 1 LOOP ;");
    b.thrown("6 k", -9);
    b.thrown("63 ones y", -3);
    b.good("m MARKER m : n {: x :} TO x ;");
    b.due("a SET", b.house.item(0, place + 1, 0), 13);
    b.thrown("y", -9);
    b.end();
  }

  private static void defers() {
    Bench b = new Bench("part 4: a DEFER without action, or that leads over more than 8, is -24", 4, 0);
    b.good(": w 5 ; DEFER a");
    b.thrown("a", -24);
    b.thrown(": x a ; x", -24);
    b.thrown("' a EXECUTE", -24);
    b.data("' a CATCH", "-24");
    b.good("' a IS a");
    b.thrown("a", -24);
    b.good("' w IS a");
    String last = "a";
    for (int i = 2; i <= 8; i++) {
      b.good("DEFER a" + i + " ' " + last + " IS a" + i);
      last = "a" + i;
      b.data(last, "5");
    }
    b.good("DEFER a9 ' a8 IS a9");
    b.thrown("a9", -24);
    b.data("a8", "5");
    b.good("DEFER n DEFER n2 ' n IS n2");
    b.thrown("n2", -24);
    b.good("' a9 TASK DROP PAUSE");
    b.due("in a task", b.house.task(0, 1), 3 + 16 * 24);
    b.end();
  }

  private static void catchTakes() {
    Bench b = new Bench("part 4: of CATCH -9 is not its own to catch, -5 without a FRAME behind that", 4, 0);
    b.thrown("9999 CATCH", -9);
    leaves(b, "7 9999", "CATCH", "7 0 -9");
    b.thrown("CATCH", -4);
    b.good(": deep DUP IF 1- RECURSE ELSE DROP CATCH THEN ;");
    b.data("' TRUE 38 deep", "-1 0");
    b.thrown("' TRUE 39 deep", -5);
    b.thrown("9999 39 deep", -9);
    b.good(": one ; ");
    b.data("' one 38 deep", "-5");
    b.data("' one 37 deep", "0");
    b.due("the first that catches is another one", b.run(": c ['] TRUE 38 deep ; ' c CATCH"), 0);
    b.due("an outer CATCH has it", b.data(0, 0), "-5");
    b.end();
  }

  private static void catchEnds() {
    Bench b = new Bench("part 4: as what CATCH did ends RETURN, LOOPS and LOCALS are as they were, 0 is put on DATA");
    b.house.system(4, 0);
    b.data("5 6 ' >R CATCH", "5 0");
    b.due("RETURN", b.house.depth(0, 0, 1), 0);
    b.data(": a 1 2 ; ' a CATCH", "1 2 0");
    b.data(": c {: x :} 4 >R 2 0 DO I ['] DROP CATCH DROP LOOP R> x ; 9 c", "4 9");
    b.good(": ones 0 DO 1 LOOP ; : d 63 ones ; : e 64 ones ;");
    b.good("' d CATCH");
    b.due("the 64th", b.house.depth(0, 0, 0), 64);
    b.due("0", b.house.cell(0, 0, 0, 0), 0);
    b.thrown("1 THROW", -3);
    b.thrown("' e CATCH", -3);
    b.due("FRAMES", b.house.depth(0, 0, 4), 0);
    b.data(": f ['] e CATCH ; ' f CATCH", "-3");
    b.due("its FRAME is gone", b.run(0, "5 ' DUP CATCH", 3), 1);
    b.due("one", b.house.depth(0, 0, 4), 1);
    b.house.go(0, 1);
    b.due("none", b.house.depth(0, 0, 4), 0);
    b.house.go(0, 9);
    b.end();
  }

  private static void throwGoes() {
    Bench b = new Bench("part 4: THROW goes to the latest CATCH, cells that are no more there are 0");
    b.house.system(4, 0);
    b.data("0 THROW 5", "5");
    b.data(": a 5 THROW ; 1 2 3 ' a CATCH", "1 2 3 5");
    b.data(": c 2DROP DROP 5 THROW ; 1 2 3 ' c CATCH", "0 0 0 5");
    b.data(": d 2DROP 7 5 THROW ; 1 2 3 ' d CATCH", "1 7 0 5");
    b.data(": e 7 8 9 -5 THROW ; 1 ' e CATCH", "1 -5");
    b.data(": f ['] a CATCH 10 * ; ' f CATCH", "50 0");
    b.data(": g ['] a CATCH THROW ; ' g CATCH", "5");
    b.data(": h {: x :} 9 >R 5 0 DO 6 5 THROW LOOP ; 4 ' h CATCH", "6 5");
    b.due("rows", b.house.depth(0, 0, 1) + b.house.depth(0, 0, 2) + b.house.depth(0, 0, 3) + b.house.depth(0, 0, 4), 0);
    b.data(": i {: x :} 8 >R 2 0 DO ['] a CATCH DROP LOOP R> x ; 4 i", "8 4");
    b.data("S\" 1 2 5 THROW 9\" ' EVALUATE CATCH 6", "1 2 5 6");
    b.data(": j 0 >IN ! 5 THROW ; ' j CATCH 6", "5 6");
    b.data(": k 999 >IN ! 5 THROW ; ' k CATCH 6", "5 6");
    b.good(": ones 0 DO 1 LOOP ; : l 5 THROW ; 63 ones ' l CATCH");
    b.due("63 and the code", b.house.depth(0, 0, 0), 64);
    b.due("thrown tells none of it", b.house.thrown(0, 0), 0);
    b.end();
  }

  private static void throwOut() {
    Bench b = new Bench("part 4: without a CATCH all rows of task 0 are empty, its text is over, STATE is interpreting");
    b.house.system(4, 0);
    b.good(": a {: x :} 5 >R 3 0 DO 7 THROW LOOP ; 8 0 SEND DROP");
    b.thrown("1 2 3 a 9", 7);
    for (int i = 0; i < 5; i++) b.due("row " + i, b.house.depth(0, 0, i), 0);
    b.due("its BOX stays", b.house.depth(0, 0, 5), 1);
    b.due("the text is over", b.house.count(0, 12), 0);
    b.thrown("S\" S' 1 foo' EVALUATE\" 2DROP : n S\" foo\" EVALUATE ; S\" n 5\" EVALUATE 6", -13);
    b.due("two were nested", b.house.thrown(0, 2), 2);
    b.due("nested ones, too", b.house.count(0, 15), 0);
    b.due("READY", b.house.task(0, 0), 1);
    b.good("9 BASE C@ DROP DROP");
    b.thrown(": c IF BEGIN [: foo", -13);
    b.due("pairs", b.house.count(0, 14), 0);
    b.due("STATE", b.house.count(0, 5), 0);
    b.due("SPACE stays", b.run("55 1000 C! 1 THROW") + b.house.fetch(0, 1000, 1), 53);
    b.end();
  }

  private static void takenBack() {
    Bench b = new Bench("part 4: what is under way is taken back, from the outermost : on, words and items");
    b.house.system(4, 0);
    b.good(": e 1 ; CREATE f");
    for (String t : ": a 1 2|:NONAME 1|: a [: 1 [: 2|: a [ CREATE g 5 CONSTANT h ] [: ;]|: a IF [ WORDLIST >ORDER DEFINITIONS VARIABLE z ]".split("\\|")) {
      b.thrown(t + " foo", -13);
      b.due("words, " + t, b.house.count(0, 1), 174);
      b.due("items, " + t, b.house.count(0, 2), 2);
      b.due("latest, " + t, b.house.count(0, 13), 173);
      b.due("pairs, " + t, b.house.count(0, 14), 0);
      b.due("gone, " + t, b.find("a"), NONE);
    }
    b.due("lists stay", b.house.count(0, 6), 2);
    b.due("HERE stays", b.house.count(0, 0), 260);
    b.good("ONLY DEFINITIONS : a 1");
    b.thrown("2 [ 5 THROW", 5);
    b.due("in another text, too", b.house.count(0, 1) * 10 + b.house.count(0, 2), 1742);
    b.good(": a ;");
    b.thrown("5 THROW", 5);
    b.due("what was ended stays", b.find("a"), 174);
    b.thrown(": k 1 [ 2 3 + foo", -13);
    b.due("while interpreting, too", b.house.count(0, 1), 175);
    b.end();
  }

  private static void markerGoesBack() {
    Bench b = new Bench("part 4: MARKER, words, items and lists that came since are gone, HERE, order, list and latest as before");
    b.house.system(4, 0);
    b.good(": e 1 ; WORDLIST >ORDER DEFINITIONS CREATE f 5 ,");
    int[] before = new int[16];
    for (int i = 0; i < 16; i++) before[i] = b.house.count(0, i);
    b.good("MARKER m : g 1 2 ; WORDLIST >ORDER DEFINITIONS VARIABLE z 5 , :NONAME 6 ; DROP ONLY 2 >ORDER");
    b.due("words", b.house.count(0, 1), before[1] + 4);
    b.good("m");
    for (int i : new int[] {0, 1, 2, 6, 7, 8, 13}) b.due("count " + i, b.house.count(0, i), before[i]);
    b.due("it, too", b.find("m"), NONE);
    b.due("the order", b.find("f"), 173);
    b.good("MARKER m MARKER n m");
    b.due("a later one is gone, too", b.find("n"), NONE);
    b.good("MARKER m MARKER n n");
    b.due("an earlier one stays", b.find("m"), 174);
    b.good("m MARKER m ONLY 1 >ORDER 2 >ORDER m");
    b.due("the order", b.house.count(0, 7), 2);
    Bench c = new Bench("", 4, 0);
    c.good("WORDLIST >ORDER DEFINITIONS CREATE inTwo WORDLIST >ORDER DEFINITIONS CREATE inThree PREVIOUS 1 >ORDER DEFINITIONS MARKER m");
    c.good("PREVIOUS PREVIOUS 3 >ORDER 1 >ORDER");
    b.due("list 3", c.find("inThree") + c.find("inTwo"), 173 - 1);
    c.good("m");
    b.due("list 2", c.find("inThree") + c.find("inTwo"), 172 - 1);
    b.end();
  }

  private static void markerKeeps() {
    Bench b = new Bench("part 4: what elder words got since, and SPACE, stay");
    b.house.system(4, 0);
    b.good("1 VALUE v DEFER d CREATE c : l 1 2 + ; : dd DOES> DROP 7 ; CREATE i");
    b.good("MARKER m 2 TO v ' DUP IS d 55 1000 C! 66 ,");
    b.due("leaner", b.house.lean(0, b.find("l")), 2);
    b.good("m");
    b.data("v", "2");
    b.due("the action", b.house.word(0, b.find("d"), 3), 0);
    b.due("leaner items", b.house.word(0, b.find("l"), 4), 2);
    b.due("SPACE", b.house.fetch(0, 1000, 1), 55);
    b.due("behind HERE, too", b.house.fetch(0, b.house.count(0, 0), 0), 66);
    b.good("IMMEDIATE dd MARKER m m");
    b.due("IMMEDIATE", b.house.word(0, b.find("i"), 1), 1);
    b.data("i", "7");
    b.end();
  }

  private static void markerRefused() {
    Bench b = new Bench("part 4: -15 unless it is a word of the text itself, with no frames but texts', nothing under way, no other task");
    b.house.system(4, 0);
    b.good("MARKER m MARKER n IMMEDIATE DEFER d ' m IS d : w RECEIVE DROP ; : x m ;");
    b.thrown("' m EXECUTE", -15);
    b.data("' m CATCH", "-15");
    b.thrown("d", -15);
    b.thrown("x", -15);
    b.thrown(": y S\" m\" EVALUATE ; y", -15);
    b.thrown("S\" m\" ' EVALUATE CATCH THROW", -15);
    b.thrown(": y n", -15);
    b.thrown(": y [ m", -15);
    b.thrown("' w TASK DROP m", -15);
    b.good("PAUSE");
    b.due("it waits", b.house.task(0, 1), 2);
    b.thrown("m", -15);
    b.good("1 1 SEND DROP");
    b.due("it is READY", b.house.task(0, 1), 1);
    b.thrown("m", -15);
    b.good("PAUSE ' m TASK DROP PAUSE");
    b.due("in a task", b.house.task(0, 1), 3 + 16 * 15);
    b.thrown("' x TASK DROP PAUSE d", -15);
    b.due("m is there yet", b.find("m"), 172);
    b.good(": z ; S\" m\" EVALUATE");
    b.due("from a nested text", b.find("m"), NONE);
    b.due("words", b.house.count(0, 1), 172);
    b.end();
  }

  private static void lists() {
    Bench b = new Bench("part 4: WORDLIST makes the lists 2 .. 8, -8 beyond");
    b.house.system(4, 0);
    for (int i = 2; i <= 8; i++) b.data("WORDLIST", "" + i);
    leaves(b, "7", "WORDLIST", "7 -8");
    b.due("8", b.house.count(0, 6), 8);
    b.good(": ones 0 DO 1 LOOP ; 64 ones");
    b.thrown("WORDLIST", -3);
    Bench c = new Bench("", 4, 0);
    c.good(": ones 0 DO 1 LOOP ; 64 ones");
    c.thrown("WORDLIST", -3);
    b.due("none was made", c.house.count(0, 6), 1);
    b.end();
  }

  private static void order() {
    Bench b = new Bench("part 4: >ORDER -24 none such, 8 on the order -49, PREVIOUS -50, ONLY list 1 alone");
    b.house.system(4, 0);
    for (String t : "0 2 -1 9 32767".split(" ")) b.thrown(t + " >ORDER", -24);
    b.good("1 >ORDER 1 >ORDER 1 >ORDER 1 >ORDER 1 >ORDER 1 >ORDER 1 >ORDER");
    b.due("8", b.house.count(0, 7), 8);
    b.thrown("1 >ORDER", -49);
    leaves(b, "7 1", ">ORDER", "7 0 -49");
    b.thrown("2 >ORDER", -24);
    b.good("WORDLIST DROP");
    b.thrown("2 >ORDER", -49);
    b.good("PREVIOUS 2 >ORDER");
    b.due("8", b.house.count(0, 7), 8);
    b.good("PREVIOUS ONLY");
    b.due("1", b.house.count(0, 7), 1);
    b.good(": p 0 DO PREVIOUS LOOP ; : c ['] p CATCH ; 1 >ORDER");
    b.data("3 c", "0 -50");
    b.due("none", b.house.count(0, 7), 0);
    b.due("by no word", b.find("ONLY"), NONE);
    Bench c = new Bench("", 4, 0);
    c.good("WORDLIST >ORDER DEFINITIONS : alone PREVIOUS PREVIOUS >ORDER ; : reset PREVIOUS >ORDER ONLY ; 2 alone");
    b.due("list 2 alone", c.find("alone") * 1000 + c.find("DUP"), 172 * 1000 - 1);
    c.good("2 reset");
    b.due("list 1 alone", c.find("DUP") * 1000 + c.find("alone"), -1);
    b.end();
  }

  private static void definitions() {
    Bench b = new Bench("part 4: DEFINITIONS, new words come into the latest, -50 without one");
    b.house.system(4, 0);
    b.good("WORDLIST >ORDER");
    b.due("not yet", b.house.count(0, 8), 1);
    b.good("VARIABLE x DEFINITIONS VARIABLE y");
    b.due("before", b.house.word(0, 172, 2), 1);
    b.due("behind", b.house.word(0, 173, 2), 2);
    b.good("ONLY VARIABLE z");
    b.due("ONLY leaves it", b.house.word(0, 174, 2), 2);
    b.due("not in the order", b.find("z"), NONE);
    Bench c = new Bench("", 4, 0);
    c.good(": q PREVIOUS ['] DEFINITIONS CATCH ; q");
    b.due("without one", c.data(0, 0), "-50");
    b.due("it stays", c.house.count(0, 8), 1);
    b.end();
  }

  private static void taskNumbers() {
    Bench b = new Bench("part 4: TASK makes 1 .. 3, the least that is not there or has ended; 0, there is no place");
    b.house.system(4, 0);
    b.good(": w RECEIVE DROP ; : s 5 {: x :} 6 >R 7 8 PAUSE R> ;");
    b.data("' w TASK ' w TASK ' w TASK ' w TASK", "1 2 3 0");
    b.data("4 2 SEND PAUSE", "-1");
    b.due("2 has ended", b.house.task(0, 2), 3);
    b.data("' w TASK ' w TASK", "2 0");
    b.data("4 3 SEND 4 1 SEND PAUSE", "-1 -1");
    b.data("' s TASK ' s TASK ' s TASK", "1 3 0");
    b.good("PAUSE 9 1 SEND DROP PAUSE");
    b.due("its BOX stays", b.house.depth(0, 1, 5), 1);
    b.data("' s TASK", "1");
    for (int i = 0; i < 6; i++) b.due("empty, row " + i, b.house.depth(0, 1, i), 0);
    b.due("READY", b.house.task(0, 1), 1);
    b.good(": e 5 THROW ; PAUSE PAUSE ' e TASK DROP PAUSE");
    b.due("thrown out", b.house.task(0, 1), 3 - 80);
    b.data("' w TASK", "1");
    b.due("no code", b.house.task(0, 1), 1);
    b.end();
  }

  private static void pauses() {
    Bench b = new Bench("part 4: PAUSE, the next task by numbers, round, that is READY; the same one if there is no other");
    b.house.system(4, 0);
    b.data("PAUSE 5 PAUSE", "5");
    b.good(": a 1 . PAUSE 4 . ; : c RECEIVE . ; : d 3 . PAUSE 6 . ; ' a TASK ' c TASK ' d TASK 2DROP DROP");
    b.good("0 . PAUSE 7 . PAUSE 8 .");
    b.due("in turns, but for the one that waits", b.out(0), "0 1 3 7 4 6 8 ");
    b.good("9 2 SEND DROP PAUSE");
    b.due("it goes on", b.out(0), "0 1 3 7 4 6 8 9 ");
    b.good(": p PAUSE 1 . ; ' p TASK DROP 5 0 SEND DROP RECEIVE .");
    b.due("none other", b.out(0), "0 1 3 7 4 6 8 9 5 ");
    b.end();
  }

  private static void ends() {
    Bench b = new Bench("part 4: a task that has done its token has ENDED, its rows are empty, its BOX stays");
    b.house.system(4, 0);
    b.good(": a {: x :} 5 >R 1 2 3 PAUSE R> ; : w 9 a ; ' w TASK DROP PAUSE 4 1 SEND DROP");
    b.due("rows", b.cells(0, 1, 0) + "/" + b.cells(0, 1, 1) + "/" + b.cells(0, 1, 3), "1 2 3/5/9");
    b.good("PAUSE");
    b.due("ENDED", b.house.task(0, 1), 3);
    for (int i = 0; i < 5; i++) b.due("row " + i, b.house.depth(0, 1, i), 0);
    b.due("BOX", b.cells(0, 1, 5), "4");
    b.due("the next one goes on", b.house.count(0, 9), 0);
    b.end();
  }

  private static void stops() {
    Bench b = new Bench("part 4: STOP ends a task, -24 of task 0");
    b.house.system(4, 0);
    b.thrown("STOP", -24);
    b.thrown(": a STOP ; a", -24);
    b.good(": w 1 2 STOP 5 . ; : v 6 . ; ' w TASK ' v TASK 2DROP PAUSE");
    b.due("ENDED", b.house.task(0, 1), 3);
    b.due("rows", b.house.depth(0, 1, 0), 0);
    b.due("the next one went on", b.out(0), "6 ");
    b.good(": c ['] STOP CATCH 7 . ; ' c TASK DROP PAUSE");
    b.due("no CATCH has it", b.house.task(0, 1), 3);
    b.due("nothing more", b.out(0), "6 ");
    b.end();
  }

  private static void sends() {
    Bench b = new Bench("part 4: SEND -1, or 0 if the BOX of 4 is full, or there is no such task or it has ended");
    b.house.system(4, 0);
    b.data("1 0 SEND 2 0 SEND 3 0 SEND 4 0 SEND 5 0 SEND", "-1 -1 -1 -1 0");
    b.due("in order", b.house.cell(0, 0, 5, 0) * 1000 + b.house.cell(0, 0, 5, 3), 1004);
    b.data("RECEIVE 6 0 SEND", "1 -1");
    b.due("behind the others", b.house.cell(0, 0, 5, 3), 6);
    b.data("1 1 SEND 1 3 SEND 1 4 SEND 1 -1 SEND 1 32767 SEND", "0 0 0 0 0");
    b.good(": w ; : r RECEIVE DROP ; ' w TASK DROP");
    b.data("5 1 SEND", "-1");
    b.data("PAUSE 5 1 SEND", "0");
    b.due("its BOX stays", b.house.depth(0, 1, 5), 1);
    b.good("' r TASK DROP PAUSE");
    b.due("waits", b.house.task(0, 1), 2);
    b.data("5 1 SEND", "-1");
    b.due("READY", b.house.task(0, 1), 1);
    b.data("6 1 SEND 7 1 SEND 8 1 SEND 9 1 SEND", "-1 -1 -1 0");
    b.thrown("1 SEND", -4);
    b.end();
  }

  private static void receives() {
    Bench b = new Bench("part 4: RECEIVE, the first cell of the own BOX, -3 as it is taken");
    b.house.system(4, 0);
    b.good(": ones 0 DO 1 LOOP ; 7 0 SEND DROP 8 0 SEND DROP 63 ones RECEIVE");
    b.due("7", b.house.cell(0, 0, 0, 0), 7);
    b.thrown("RECEIVE", -3);
    b.due("it stays in the BOX", b.cells(0, 0, 5), "8");
    b.good("RECEIVE DROP : w 64 ones RECEIVE ; ' w TASK DROP PAUSE");
    b.due("with full DATA it waits", b.house.task(0, 1), 2);
    b.data("5 1 SEND", "-1");
    b.good("PAUSE");
    b.due("-3 as it is taken", b.house.task(0, 1), 3 + 48);
    b.due("it stays in the BOX", b.cells(0, 1, 5), "5");
    b.good(": v 63 ones ['] RECEIVE CATCH . ; ' v TASK DROP PAUSE");
    b.data("6 1 SEND PAUSE", "-1");
    b.due("-3 of the 0 of CATCH", b.house.task(0, 1), 3 + 48);
    b.end();
  }

  private static void noneReady() {
    Bench b = new Bench("part 4: if none is READY, THROW -257; as a task ends in task 0, that waits");
    b.house.system(4, 0);
    b.thrown("RECEIVE", -257);
    b.data("5 ' RECEIVE CATCH", "5 -257");
    b.good(": w 1 . ; ' w TASK DROP");
    b.thrown("RECEIVE", -257);
    b.due("the task was done", b.out(0), "1 ");
    b.due("it has ENDED", b.house.task(0, 1), 3);
    b.due("task 0 is READY", b.house.task(0, 0), 1);
    b.good("' w TASK DROP");
    b.data("6 ' RECEIVE CATCH", "6 -257");
    b.good(": s STOP ; ' s TASK DROP");
    b.data("' RECEIVE CATCH", "-257");
    b.good(": e 9 THROW ; ' e TASK DROP");
    b.data("' RECEIVE CATCH", "-257");
    b.due("its own code", b.house.task(0, 1), 3 - 16 * 9);
    b.good(": r RECEIVE ; ' r TASK DROP");
    b.data("' RECEIVE CATCH", "-257");
    b.due("RECEIVE of the task was thrown out, too", b.house.task(0, 1), 3 + 16 * 257);
    b.good(": c ['] RECEIVE CATCH . 5 0 SEND DROP PAUSE ; ' c TASK DROP RECEIVE DROP PAUSE");
    b.due("or caught there", b.out(0), "1 1 -257 ");
    b.good("7 0 SEND DROP");
    b.data("RECEIVE", "7");
    b.end();
  }

  private static void executesOfExecute() {
    Bench b = new Bench("part 1: EXECUTE of EXECUTE, and so on, is one step");
    b.house.system(4, 0);
    b.good(": many 0 DO ['] EXECUTE LOOP ; ' TRUE 63 many");
    b.due("64 tokens", b.house.depth(0, 0, 0), 64);
    b.due("one step", b.run(0, "EXECUTE 5", 1), 1);
    b.due("all are done", b.data(0, 0), "-1");
    b.house.go(0, 9);
    b.good("DROP DROP : catches 0 DO ['] CATCH LOOP ; ' TRUE 30 catches");
    b.due("one step", b.run(0, "CATCH 5", 1), 1);
    b.due("all are done", b.data(0, 0), "-1");
    b.due("FRAMES", b.house.depth(0, 0, 4), 31);
    b.due("their ends", b.house.go(0, 31), 1);
    b.due("31 of 0", b.house.depth(0, 0, 0), 32);
    b.end();
  }

  private static String told(Bench b) {
    return b.house.count(0, 10) + " " + b.house.count(0, 11);
  }

  private static void tester() {
    Bench b = new Bench("part 4: T{ -> }T, GOOD grows if they are as many and the same, else BAD");
    b.house.system(4, 0);
    b.data("9 T{ 1 2 -> 1 2 }T", "9");
    b.due("GOOD", told(b), "1 0");
    String[] bad = {"1 2 -> 1 3", "1 2 -> 2 2", "1 2 -> 1", "1 -> 1 2", "-> 1", "1 ->"};
    for (int i = 0; i < bad.length; i++) {
      b.data("9 T{ " + bad[i] + " }T", "9");
      b.due("BAD, " + bad[i], told(b), "1 " + (i + 1));
    }
    b.data("T{ -> }T", "");
    b.due("none and none", told(b), "2 6");
    b.good(": ones 0 DO 1 LOOP ; T{ 64 ones -> 64 ones }T");
    b.due("64", told(b), "3 6");
    b.data(": w 7 8 9 -> ; ' w TASK DROP 1 2 T{ PAUSE 9 }T", "1 2");
    b.due("one for all tasks", told(b), "4 6");
    b.end();
  }

  private static void testerFewer() {
    Bench b = new Bench("part 4: of the tester, fewer than noted is nothing above; at first 0 is noted, nothing kept");
    b.house.system(4, 0);
    b.data("}T", "");
    b.due("nothing kept at first", told(b), "1 0");
    b.data("5 }T", "");
    b.due("0 noted at first", told(b), "1 1");
    b.data("5 -> 5 }T", "");
    b.due("kept", told(b), "2 1");
    b.data("1 2 T{ 2DROP -> }T", "");
    b.due("fewer than noted", told(b), "3 1");
    b.data("1 2 T{ DROP -> DROP }T", "");
    b.due("fewer than noted", told(b), "4 1");
    b.data("1 2 3 }T", "1 2");
    b.due("2 is noted still, nothing kept", told(b), "4 2");
    b.good("1 2 T{ 3 4 ->");
    b.thrown("1 THROW", 1);
    b.data("7 8 3 4 }T", "7 8");
    b.due("throws leave what is noted and kept", told(b), "5 2");
    b.end();
  }
}
