/** Part 5: effects and leaner definitions. */
public final class EffectsTest {
  public static void main(String[] args) {
    known();
    conflicts();
    unknown();
    recursion();
    loops();
    kinds();
    goingRound();
    leanPairs();
    leanJumps();
    leanCells();
    leanKeeps();
    Bench.exit();
  }

  /** The effect of a definition's text on a new system: effect, IN, OUT, place. */
  private static void effect(Bench b, String text, String due) {
    Bench one = new Bench("", 4, 0);
    one.run(": w " + text + " ;");
    b.due("effect of " + text, one.effect("w"), due);
  }

  private static void known() {
    Bench b = new Bench("effects that are known", 4, 0);
    effect(b, "", "1 0 0 -1");
    effect(b, "+", "1 2 1 -1");
    effect(b, "DUP *", "1 1 1 -1");
    effect(b, "1 2", "1 0 2 -1");
    effect(b, "DROP DROP 1", "1 2 1 -1");
    effect(b, "ROT ROT", "1 3 3 -1");
    effect(b, "IF 1 ELSE 2 THEN", "1 1 1 -1");
    effect(b, "IF EXIT THEN", "1 1 0 -1");
    effect(b, ">R 1 R>", "1 1 2 -1");
    effect(b, ">R R@ R>", "1 1 2 -1");
    effect(b, "2>R 2R>", "1 2 2 -1");
    effect(b, "{: a b | c :} a TO c", "1 2 0 -1");
    effect(b, "CASE 1 OF 10 ENDOF 2 OF 20 ENDOF DUP ENDCASE", "1 1 1 -1");
    effect(b, "CASE 1 OF 10 ENDOF 0 SWAP ENDCASE", "1 1 1 -1");
    effect(b, "ABORT", "2 0 0 0");
    effect(b, "IF ABORT THEN", "1 1 0 -1");
    effect(b, "IF 1 2 3 ABORT THEN 5", "1 1 1 -1");
    effect(b, "THROW", "1 1 0 -1");
    effect(b, "IF STOP THEN DROP", "1 2 0 -1");
    effect(b, "S\" a\" TYPE .\" b\" ABORT\" c\"", "1 1 0 -1");
    effect(b, "DOES> DROP DROP", "1 0 0 -1");
    effect(b, "1 DOES> EXECUTE", "1 0 1 -1");
    effect(b, "[: + ;]", "1 0 1 -1");
    effect(b, "BEGIN DUP WHILE 1- REPEAT", "1 1 1 -1");
    effect(b, "BEGIN 1- DUP 0= UNTIL DROP", "1 1 0 -1");
    effect(b, "BASE @ U. . # #S #> TYPE HOLD DEPTH", "1 4 1 -1");
    effect(b, "WORDLIST >ORDER TASK SEND RECEIVE >BODY PAUSE ONLY PREVIOUS DEFINITIONS", "1 2 2 -1");
    effect(b, "1 IF 2OVER 2DROP 2DROP THEN", "0 0 0 5");
    effect(b, "AHEAD EXECUTE THEN", "1 0 0 -1");
    b.end();
  }

  private static void conflicts() {
    Bench b = new Bench("CONFLICT", 4, 0);
    effect(b, "IF 1 THEN", "0 0 0 2");
    effect(b, "BEGIN 1 AGAIN", "0 0 0 0");
    effect(b, "R>", "0 0 0 0");
    effect(b, "1 R@", "0 0 0 1");
    effect(b, "2R>", "0 0 0 0");
    effect(b, ">R 2R>", "0 0 0 1");
    effect(b, ">R", "0 0 0 1");
    effect(b, "I", "0 0 0 0");
    effect(b, "1 0 DO J LOOP", "0 0 0 3");
    effect(b, "1 0 DO I DROP LOOP", "1 0 0 -1");
    effect(b, "UNLOOP", "0 0 0 0");
    effect(b, "1 0 DO EXIT LOOP", "0 0 0 3");
    effect(b, "1 0 DO 1 LOOP", "0 0 0 3");
    effect(b, "IF 1 EXIT THEN", "0 0 0 3");
    effect(b, "IF >R THEN", "0 0 0 2");
    effect(b, "IF >R ELSE DROP THEN", "0 0 0 4");
    effect(b, ">R DOES>", "0 0 0 1");
    effect(b, "IF DROP BEGIN DUP AGAIN THEN EXECUTE", "0 0 0 2");
    effect(b, "IF EXECUTE THEN R>", "2 0 0 1");
    effect(b, "IF R> THEN EXECUTE", "0 0 0 1");
    b.end();
  }

  private static void unknown() {
    Bench b = new Bench("UNKNOWN", 4, 0);
    for (String w : ("?DUP PICK ROLL : CONSTANT VARIABLE VALUE CREATE DEFER MARKER IMMEDIATE ' CHAR ] "
        + "EXECUTE EVALUATE CATCH LOAD T{ -> }T").split(" ")) {
      effect(b, "1 " + w, "2 0 0 1");
    }
    effect(b, "POSTPONE DUP", "2 0 0 0");
    effect(b, "1 POSTPONE IF", "2 0 0 1");
    effect(b, "BEGIN AGAIN", "2 0 0 0");
    effect(b, "1 DROP BEGIN AGAIN", "2 0 0 0");
    b.good("DEFER d CREATE c : x EXECUTE ; : y IF 1 THEN ; MARKER m");
    int place = b.house.count(0, 2);
    b.good(": a 1 d ; : e 1 c ; : f 1 x ; : g 1 y ; : h 1 m ;");
    for (String w : "a e f g h".split(" ")) {
      b.due(w, b.effect(w), "2 0 0 " + (place + 1));
      place += 3;
    }
    b.end();
  }

  private static void recursion() {
    Bench b = new Bench("definitions that do themselves", 4, 0);
    effect(b, "DUP 1 > IF DUP 1- RECURSE * THEN", "1 1 1 -1");
    effect(b, "RECURSE", "2 0 0 0");
    effect(b, "1 RECURSE", "2 0 0 0");
    effect(b, "DUP IF 1- RECURSE ELSE DROP THEN", "1 1 0 -1");
    effect(b, "IF RECURSE ELSE 1 THEN", "0 0 0 4");
    effect(b, "DUP IF DROP RECURSE ELSE DROP THEN", "0 0 0 6");
    effect(b, "IF 1 RECURSE ELSE THEN", "1 1 0 -1");
    effect(b, "IF 1 RECURSE EXECUTE ELSE THEN", "2 0 0 3");
    effect(b, "IF 1 RECURSE 5 ELSE THEN", "0 0 0 5");
    effect(b, "IF RECURSE R> ELSE THEN", "0 0 0 2");
    effect(b, "BEGIN DUP WHILE RECURSE 1- REPEAT", "1 1 1 -1");
    b.end();
  }

  private static void loops() {
    Bench b = new Bench("effects of loops", 4, 0);
    effect(b, "DO I DROP LOOP", "1 2 0 -1");
    effect(b, "?DO I + LOOP", "1 3 1 -1");
    effect(b, "0 SWAP 0 ?DO I + LOOP", "1 1 1 -1");
    effect(b, "DO 2 +LOOP", "1 2 0 -1");
    effect(b, "DO DUP IF LEAVE THEN LOOP", "1 3 1 -1");
    effect(b, "DO 1 LEAVE LOOP", "1 2 1 -1");
    effect(b, "DO IF 1 LEAVE THEN LOOP", "0 0 0 5");
    effect(b, "DO DUP IF 1 LEAVE THEN LOOP", "0 0 0 6");
    effect(b, "DO UNLOOP EXIT LOOP", "1 2 0 -1");
    effect(b, "DO DO J I 2DROP LOOP LOOP", "0 0 0 1");
    effect(b, "DO 5 0 DO J I 2DROP LOOP LOOP", "1 2 0 -1");
    b.end();
  }

  private static void kinds() {
    Bench b = new Bench("effects of other words", 4, 0);
    b.good("5 CONSTANT k 6 VALUE v VARIABLE w DEFER d : a + ; : c a a ; : e k v w ; : f TO v ; : g IS d ; : h ABORT\" x\" ;");
    b.due("a", b.effect("a"), "1 2 1 -1");
    b.due("c", b.effect("c"), "1 3 1 -1");
    b.due("e", b.effect("e"), "1 0 3 -1");
    b.due("f", b.effect("f"), "1 1 0 -1");
    b.due("g", b.effect("g"), "1 1 0 -1");
    b.due("h", b.effect("h"), "1 1 0 -1");
    b.good(":NONAME 1 [: DROP ;] ;");
    b.due("of :NONAME", b.house.effectOf(0, 182, 1), 2);
    b.due("of the one within", b.house.effectOf(0, 183, 0), 1);
    b.good(": i a ; : a ;");
    b.due("as it was ended", b.effect("i"), "1 2 1 -1");
    b.end();
  }

  private static void goingRound() {
    Bench b = new Bench("effects go round", 4, 0);
    b.good(": a DROP ; : z 1 ;");
    for (int i = 0; i < 31; i++) b.good(": a a a ; : z z z ;");
    b.due("a, 31 times doubled", b.effect("a"), "1 -2147483648 0 -1");
    b.due("z, 31 times doubled", b.effect("z"), "1 0 -2147483648 -1");
    b.good(": a a a ; : z z z ;");
    b.due("a, 32 times doubled", b.effect("a"), "1 -2147483648 -2147483648 -1");
    b.due("z, 32 times doubled", b.effect("z"), "1 0 0 -1");
    b.end();
  }

  private static void lean(Bench b, String text, int fewer, String items) {
    Bench one = new Bench("", 4, 0);
    one.run(": w " + text + " ;");
    int token = one.find("w");
    String effect = one.effect("w");
    int all = one.house.count(0, 2);
    b.due("fewer of " + text, one.house.lean(0, token), fewer);
    b.due("items of " + text, one.items(0, 0, one.house.word(0, token, 4)), items);
    b.due("all items of " + text, one.house.count(0, 2), all);
    b.due("effect of " + text, one.effect("w"), effect);
  }

  private static void leanPairs() {
    Bench b = new Bench("LEANER: what goes", 4, 0);
    lean(b, "SWAP SWAP", 2, "0:150");
    lean(b, "DUP DROP", 2, "0:150");
    lean(b, "NEGATE NEGATE", 2, "0:150");
    lean(b, "INVERT INVERT", 2, "0:150");
    lean(b, ">R R>", 2, "0:150");
    lean(b, "5 DROP", 2, "0:150");
    lean(b, "R> >R", 0, "0:17 0:16 0:150");
    lean(b, "DROP DUP", 0, "0:1 0:0 0:150");
    lean(b, "SWAP SWAP SWAP", 2, "0:2 0:150");
    lean(b, "SWAP DUP DROP SWAP", 4, "0:150");
    lean(b, "DUP 5 DROP DROP", 4, "0:150");
    lean(b, "OVER SWAP SWAP", 2, "0:3 0:150");
    lean(b, "", 0, "0:150");
    b.end();
  }

  private static void leanJumps() {
    Bench b = new Bench("LEANER: jumps", 4, 0);
    lean(b, "AHEAD THEN", 1, "0:150");
    lean(b, "IF ELSE THEN", 1, "3:1 0:150");
    lean(b, "IF 1 2 + ELSE 3 4 + THEN", 4, "3:3 1:3 2:4 1:7 0:150");
    lean(b, "IF SWAP THEN SWAP", 0, "3:2 0:2 0:2 0:150");
    lean(b, "1 BEGIN 2 + AGAIN", 0, "1:1 1:2 0:21 2:1 0:150");
    lean(b, "BEGIN 1 2 + AGAIN", 2, "1:3 2:0 0:150");
    lean(b, "BEGIN SWAP SWAP AGAIN", 2, "2:0 0:150");
    lean(b, "1 IF 2 THEN DROP", 0, "1:1 3:3 1:2 0:1 0:150");
    lean(b, "IF DUP DROP THEN 5", 2, "3:1 1:5 0:150");
    lean(b, "1 2 DO 3 4 + DROP LOOP 5 NEGATE", 5, "1:1 1:2 4:0 6:3 1:-5 0:150");
    lean(b, "DO LEAVE 1 DROP LOOP", 2, "4:0 8:3 6:1 0:150");
    lean(b, "?DO 1 1+ LOOP", 1, "5:3 1:2 6:1 0:150");
    lean(b, "CASE 1 1+ OF SWAP SWAP ENDOF ENDCASE", 3, "1:2 9:3 2:4 0:1 0:150");
    lean(b, "AHEAD AHEAD THEN THEN", 2, "0:150");
    lean(b, "BEGIN AHEAD THEN AGAIN", 1, "2:0 0:150");
    b.end();
  }

  private static void leanCells() {
    Bench b = new Bench("LEANER: cells", 4, 0);
    lean(b, "7 3 +", 2, "1:10 0:150");
    lean(b, "7 3 -", 2, "1:4 0:150");
    lean(b, "65536 65536 *", 2, "1:0 0:150");
    lean(b, "12 10 AND", 2, "1:8 0:150");
    lean(b, "12 10 OR", 2, "1:14 0:150");
    lean(b, "12 10 XOR", 2, "1:6 0:150");
    lean(b, "1 1 =", 2, "1:-1 0:150");
    lean(b, "1 1 <>", 2, "1:0 0:150");
    lean(b, "-1 1 <", 2, "1:-1 0:150");
    lean(b, "-1 1 >", 2, "1:0 0:150");
    lean(b, "-1 1 MIN", 2, "1:-1 0:150");
    lean(b, "-1 1 MAX", 2, "1:1 0:150");
    lean(b, "5 NEGATE", 1, "1:-5 0:150");
    lean(b, "5 INVERT", 1, "1:-6 0:150");
    lean(b, "0 0=", 1, "1:-1 0:150");
    lean(b, "2147483647 1+", 1, "1:-2147483648 0:150");
    lean(b, "-2147483648 1-", 1, "1:2147483647 0:150");
    lean(b, "1073741824 2*", 1, "1:-2147483648 0:150");
    lean(b, "1 2 3 + *", 4, "1:5 0:150");
    lean(b, "1 2 + 3 * NEGATE 0= DROP", 8, "0:150");
    for (String w : "/ MOD U< LSHIFT RSHIFT".split(" ")) {
      Bench one = new Bench("", 4, 0);
      one.run(": w 8 2 " + w + " ;");
      b.due("2 " + w, one.house.lean(0, 172), 0);
    }
    for (String w : "ABS 2/ 0< 0> 0<> DUP".split(" ")) {
      Bench one = new Bench("", 4, 0);
      one.run(": w 8 " + w + " ;");
      b.due("8 " + w, one.house.lean(0, 172), 0);
    }
    Bench c = new Bench("", 2, 0);
    c.run(": w 32767 1+ 200 200 * ;");
    b.due("2 bytes", c.house.lean(0, 172), 3);
    b.due("2 bytes", c.items(0, 0, 3), "1:-32768 1:-25536 0:150");
    b.end();
  }

  private static void leanKeeps() {
    Bench b = new Bench("LEANER: what stays", 4, 0);
    b.good(": a 1 2 + ; : c a a ; MARKER m");
    b.due("a", b.house.lean(0, 172), 2);
    b.data("c", "3 3");
    b.good("m");
    b.due("leaner all the same", b.house.word(0, 172, 4), 2);
    b.good(": e ;");
    b.due("places stay", b.house.word(0, b.find("e"), 3), 4 + 3);
    b.data("c", "3 3");
    b.end();
  }
}
