/** Part 5, sentence by sentence: heights, CONFLICT, UNKNOWN, IN and OUT, and LEANER. */
public final class EdgesPart5Test {
  private static final int BAD = -2;

  public static void main(String[] args) {
    heights();
    goRound();
    leastFirst();
    twoWays();
    below();
    atExit();
    peeked();
    unknownWords();
    toldWords();
    unknownKinds();
    firstMetEnds();
    waysEnd();
    inCounts();
    inOfWaysAndKinds();
    outCounts();
    withoutExit();
    doesItself();
    doesItselfTwice();
    leanerCells();
    leanerOneCell();
    leanerPairs();
    leanerJumps();
    leanerNotLed();
    leanerOrder();
    leanerLeads();
    leanerStays();
    Bench.exit();
  }

  /** Effect, IN, OUT and the place in the way, of a definition at item 0 of a new system. */
  private static void effect(Bench b, String text, String due) {
    Bench one = new Bench("", 4, 0);
    b.due("running " + text, one.run(": w " + text + " ;"), 0);
    b.due("effect of " + text, one.effect("w"), due);
  }

  private static void heights() {
    Bench b = new Bench("part 5: an item has a HEIGHT of DATA, of RETURN and of loops, another one is a CONFLICT there");
    effect(b, "", "1 0 0 -1");
    effect(b, "IF 1 ELSE 2 THEN", "1 1 1 -1");
    effect(b, "IF 1 ELSE THEN", "0 0 0 3");
    effect(b, "IF 1 THEN", "0 0 0 2");
    effect(b, "IF DROP THEN", "0 0 0 2");
    effect(b, "DUP IF >R ELSE THEN", "0 0 0 4");
    effect(b, "IF >R ELSE DROP THEN", "0 0 0 4");
    effect(b, "BEGIN 1 AGAIN", "0 0 0 0");
    effect(b, "BEGIN 1 DROP AGAIN", "2 0 0 0");
    effect(b, "5 BEGIN 1 UNTIL", "1 0 1 -1");
    effect(b, "5 BEGIN 1 DUP UNTIL", "0 0 0 1");
    effect(b, "DO IF 1 LEAVE THEN LOOP", "0 0 0 5");
    effect(b, "1 0 DO 1 LOOP", "0 0 0 3");
    effect(b, "1 0 DO 1 DROP LOOP", "1 0 0 -1");
    effect(b, "IF 1 >R THEN 5", "0 0 0 3");
    effect(b, "1 0 DO DUP IF UNLOOP THEN LOOP", "0 0 0 6");
    b.end();
  }

  private static void goRound() {
    Bench b = new Bench("part 5: HEIGHTS, IN and OUT are numbers of 32 bits, going round", 4, 0);
    b.good(": a DROP ; : z 1 ; : u 1 DROP ;");
    for (int i = 0; i < 30; i++) b.good(": a a a ; : z z z ;");
    b.due("2 to the 30th", b.effect("a"), "1 1073741824 0 -1");
    b.due("2 to the 30th", b.effect("z"), "1 0 1073741824 -1");
    b.good(": a a a ; : z z z ;");
    b.due("2 to the 31st", b.effect("a"), "1 -2147483648 0 -1");
    b.due("2 to the 31st", b.effect("z"), "1 0 -2147483648 -1");
    b.good(": zz z z ;");
    b.due("2 to the 32nd", b.effect("zz"), "1 0 0 -1");
    b.good(": y z 1 ;");
    b.due("and 1", b.effect("y"), "1 0 -2147483647 -1");
    b.good(": x IF z z THEN ;");
    b.due("the same height again", b.effect("x"), "1 1 0 -1");
    b.end();
  }

  private static void leastFirst() {
    Bench b = new Bench("part 5: of those that were come to and not looked at the one of the least place is looked at");
    effect(b, "IF EXECUTE THEN R>", "2 0 0 1");
    effect(b, "IF R> THEN EXECUTE", "0 0 0 1");
    effect(b, "IF 1 R> ELSE EXECUTE THEN", "0 0 0 2");
    effect(b, "IF 1 ELSE 2 2 THEN R>", "0 0 0 5");
    effect(b, "IF AHEAD ELSE EXECUTE THEN R> THEN", "2 0 0 3");
    b.end();
  }

  private static void twoWays() {
    Bench b = new Bench("part 5: of two ways the next item's first");
    effect(b, "DUP BEGIN DUP WHILE 1 REPEAT", "0 0 0 1");
    effect(b, "BEGIN WHILE 1 1 1 UNTIL THEN", "0 0 0 5");
    effect(b, "IF 1 0 DO 5 LOOP THEN", "0 0 0 6");
    effect(b, "IF 1 0 DO 5 1 +LOOP THEN", "0 0 0 7");
    effect(b, "BEGIN 1 1 UNTIL 5", "0 0 0 0");
    b.end();
  }

  private static void below() {
    Bench b = new Bench("part 5: RETURN or loops below 0 is a CONFLICT at the item that takes");
    effect(b, "R>", "0 0 0 0");
    effect(b, "1 R>", "0 0 0 1");
    effect(b, "2R>", "0 0 0 0");
    effect(b, "1 >R 2R>", "0 0 0 2");
    effect(b, "1 2 2>R 2R>", "1 0 2 -1");
    effect(b, "1 2 2>R R> R>", "1 0 2 -1");
    effect(b, "1 >R 2 >R 2R>", "1 0 2 -1");
    effect(b, "UNLOOP", "0 0 0 0");
    effect(b, "1 0 DO UNLOOP UNLOOP LOOP", "0 0 0 4");
    effect(b, "1 0 DO UNLOOP LOOP", "0 0 0 4");
    effect(b, "1 0 DO UNLOOP 1 +LOOP", "0 0 0 5");
    effect(b, "1 0 DO UNLOOP LEAVE LOOP", "0 0 0 4");
    effect(b, "1 0 DO 1 0 DO UNLOOP LEAVE LOOP LOOP", "0 0 0 9");
    b.end();
  }

  private static void atExit() {
    Bench b = new Bench("part 5: at EXIT or DOES other than 0 of these, or another height than at an earlier EXIT, is a CONFLICT there");
    effect(b, "1 >R", "0 0 0 2");
    effect(b, "1 >R EXIT R>", "0 0 0 2");
    effect(b, "1 0 DO EXIT LOOP", "0 0 0 3");
    effect(b, "1 0 DO UNLOOP EXIT LOOP", "1 0 0 -1");
    effect(b, "1 >R DOES>", "0 0 0 2");
    effect(b, "IF 1 EXIT THEN", "0 0 0 3");
    effect(b, "IF 1 EXIT THEN 2", "1 1 1 -1");
    effect(b, "IF EXIT THEN 2", "0 0 0 3");
    effect(b, "IF EXIT THEN DOES>", "1 1 0 -1");
    effect(b, "IF EXIT THEN 1 DOES>", "0 0 0 3");
    effect(b, "DOES> R> R> R>", "1 0 0 -1");
    b.end();
  }

  private static void peeked() {
    Bench b = new Bench("part 5: R@, and I, J, need 1, 1, 2 of these there");
    effect(b, "R@", "0 0 0 0");
    effect(b, ">R R@ R>", "1 1 2 -1");
    effect(b, "I", "0 0 0 0");
    effect(b, "1 0 DO I DROP LOOP", "1 0 0 -1");
    effect(b, "J", "0 0 0 0");
    effect(b, "1 0 DO J DROP LOOP", "0 0 0 3");
    effect(b, "1 0 DO 1 0 DO J I 2DROP LOOP LOOP", "1 0 0 -1");
    effect(b, "1 0 DO 1 0 DO UNLOOP J LOOP LOOP", "0 0 0 7");
    b.end();
  }

  /** Which built-in words' effects are told: how many cells each takes and leaves, as in Forth 2012. */
  static final String TOLD = " DUP:1:2 DROP:1:0 SWAP:2:2 OVER:2:3 ROT:3:3 -ROT:3:3 NIP:2:1 TUCK:2:3 2DUP:2:4 2DROP:2:0 2SWAP:4:4 2OVER:4:6 DEPTH:0:1"
      + " >R:1:0 R>:0:1 R@:0:1 2>R:2:0 2R>:0:2"
      + " +:2:1 -:2:1 *:2:1 /:2:1 MOD:2:1 /MOD:2:2 */:3:1 */MOD:3:2 1+:1:1 1-:1:1 2*:1:1 2/:1:1 NEGATE:1:1 ABS:1:1 MIN:2:1 MAX:2:1"
      + " UM*:2:2 UM/MOD:3:2 M*:2:2 SM/REM:3:2 FM/MOD:3:2 S>D:1:2 D+:4:2 DNEGATE:2:2"
      + " =:2:1 <>:2:1 <:2:1 >:2:1 U<:2:1 0=:1:1 0<>:1:1 0<:1:1 0>:1:1 AND:2:1 OR:2:1 XOR:2:1 INVERT:1:1 LSHIFT:2:1 RSHIFT:2:1 WITHIN:3:1 TRUE:0:1 FALSE:0:1"
      + " !:2:0 @:1:1 C!:2:0 C@:1:1 +!:2:0 2!:3:0 2@:1:2 HERE:0:1 ALLOT:1:0 ,:1:0 C,:1:0 ALIGN:0:0 ALIGNED:1:1 CELL+:1:1 CELLS:1:1 CHAR+:1:1 CHARS:1:1"
      + " FILL:3:0 MOVE:3:0 COUNT:1:2"
      + " .:1:0 U.:1:0 EMIT:1:0 CR:0:0 SPACE:0:0 SPACES:1:0 TYPE:2:0 <#:0:0 #:2:2 #S:2:2 #>:2:2 HOLD:1:0 SIGN:1:0 BASE:0:1 DECIMAL:0:0 HEX:0:0 >IN:0:1"
      + " I:0:1 J:0:1 UNLOOP:0:0 EXIT:0:0 >BODY:1:1 THROW:1:0 ABORT:0:0 WORDLIST:0:1 >ORDER:1:0 PREVIOUS:0:0 DEFINITIONS:0:0 ONLY:0:0"
      + " TASK:1:1 PAUSE:0:0 STOP:0:0 SEND:2:1 RECEIVE:0:1 ";

  private static void unknownWords() {
    Bench b = new Bench("part 5: UNKNOWN at the item are built-in words whose EFFECT is not told");
    for (int t = 0; t < 172; t++) {
      Bench one = new Bench("", 4, 0);
      StringBuilder name = new StringBuilder();
      for (int i = 0; i < one.house.word(0, t, 6); i++) name.append((char) one.house.name(0, t, i));
      int at = TOLD.indexOf(" " + name + ":");
      // The word by its token: WORD of it is added by POSTPONE or by its name.
      boolean immediate = one.house.word(0, t, 1) == 1;
      String around = t >= 147 && t <= 149 ? "1 0 DO 1 0 DO " : t == 17 || t == 18 || t == 20 ? "1 2 2>R " : "";
      b.due("making " + name, one.run(": w " + around + (immediate ? "POSTPONE " : "") + name + " ["), 0);
      int place = one.house.count(0, 2) - 1;
      b.due("WORD of " + name, one.items(0, place, place + 1), "0:" + t);
      String behind = t == 149 ? "] LOOP LOOP ;" : t >= 147 && t <= 148 ? "] DROP LOOP LOOP ;" : t == 17 ? "] R> ;" : t == 18 ? "] 2R> ;" : "] ;";
      if (t == 16) behind = "] R> ;";
      if (t == 19) behind = "] 2R> ;";
      b.due("ending " + name, one.run(behind), 0);
      if (at < 0) b.due("effect of " + name, one.effect("w"), "2 0 0 " + place);
      else b.due("effect of " + name, one.house.effect(0, 172) == 2 && one.house.effectOf(0, 172, 2) == place, name.toString().equals("ABORT") || name.toString().equals("STOP"));
    }
    b.end();
  }

  private static void toldWords() {
    Bench b = new Bench("part 5: the EFFECTs of built-in words are those of Forth 2012");
    for (String told : TOLD.trim().split(" ")) {
      String[] parts = told.split(":");
      if (" >R R> R@ 2>R 2R> I J UNLOOP ABORT STOP ".contains(" " + parts[0] + " ")) continue;
      effect(b, parts[0], "1 " + parts[1] + " " + parts[2] + " -1");
    }
    effect(b, ">R R>", "1 1 1 -1");
    effect(b, ">R R@ R> DROP", "1 1 1 -1");
    effect(b, "2>R 2R>", "1 2 2 -1");
    effect(b, "1 0 DO I LOOP", "0 0 0 3");
    effect(b, "1 0 DO I DROP LOOP", "1 0 0 -1");
    effect(b, "DO DO J DROP LOOP LOOP", "0 0 0 1");
    effect(b, "DO 1 0 DO J DROP LOOP LOOP", "1 2 0 -1");
    b.end();
  }

  private static void unknownKinds() {
    Bench b = new Bench("part 5: UNKNOWN are COMPILE, DEFERs, MARKERs, definitions that are CONFLICT or UNKNOWN, words made by CREATE", 4, 0);
    b.good("DEFER d MARKER m CREATE c : q IF 1 THEN ; : u EXECUTE ; : k DUP ; 5 CONSTANT e 6 VALUE f VARIABLE g : dd CREATE DOES> ; dd h");
    for (String w : "d m c q u h".split(" ")) {
      int place = b.house.count(0, 2);
      b.good(": w 1 " + w + " ;");
      b.due(w, b.effect("w"), "2 0 0 " + (place + 1));
    }
    int place = b.house.count(0, 2);
    b.good(": w 1 POSTPONE DUP ;");
    b.due("COMPILE", b.effect("w"), "2 0 0 " + (place + 1));
    for (String w : "e f g".split(" ")) {
      b.good(": w " + w + " ;");
      b.due(w, b.effect("w"), "1 0 1 -1");
    }
    b.good(": w k ; : x TO f ; : y IS d ; : z {: a | b :} a TO b b ; : v ABORT\" a\" ;");
    b.due("k", b.effect("w"), "1 1 2 -1");
    b.due("PUT of a VALUE", b.effect("x"), "1 1 0 -1");
    b.due("PUT of a DEFER", b.effect("y"), "1 1 0 -1");
    b.due("ENTER, GET, SET", b.effect("z"), "1 1 1 -1");
    b.due("ABORT", b.effect("v"), "1 1 0 -1");
    b.due("CREATE", b.effect("dd"), "2 0 0 " + b.house.word(0, b.find("dd"), 3));
    b.end();
  }

  private static void firstMetEnds() {
    Bench b = new Bench("part 5: the first CONFLICT or UNKNOWN met ends it");
    effect(b, "EXECUTE R>", "2 0 0 0");
    effect(b, "R> EXECUTE", "0 0 0 0");
    effect(b, "IF 1 THEN EXECUTE", "0 0 0 2");
    effect(b, "IF EXECUTE THEN 1 >R", "2 0 0 1");
    effect(b, "AHEAD EXECUTE R> THEN", "1 0 0 -1");
    effect(b, "EXIT EXECUTE", "1 0 0 -1");
    b.end();
  }

  private static void waysEnd() {
    Bench b = new Bench("part 5: THROW takes 1 and goes on, ABORT and STOP end a way, the item ABORT takes 3");
    effect(b, "THROW 5", "1 1 1 -1");
    effect(b, "IF 1 2 3 ABORT THEN", "1 1 0 -1");
    effect(b, "IF 1 2 3 STOP THEN", "1 1 0 -1");
    effect(b, "ABORT", "2 0 0 0");
    effect(b, "1 STOP", "2 0 0 0");
    effect(b, "ABORT EXECUTE", "2 0 0 0");
    effect(b, "IF ABORT THEN DROP", "1 2 0 -1");
    effect(b, "IF >R ABORT THEN", "1 2 1 -1");
    b.end();
  }

  private static void inCounts() {
    Bench b = new Bench("part 5: IN is the lowest of 0 and of the heights less what an item takes, with the other sign");
    effect(b, "1 DROP", "1 0 0 -1");
    effect(b, "DROP", "1 1 0 -1");
    effect(b, "DROP DROP 1 2 3", "1 2 3 -1");
    effect(b, "1 SWAP", "1 1 2 -1");
    effect(b, "1 2 SWAP", "1 0 2 -1");
    effect(b, "OVER", "1 2 3 -1");
    effect(b, "1 2 3 + + +", "1 1 1 -1");
    effect(b, "DUP", "1 1 2 -1");
    effect(b, "@", "1 1 1 -1");
    effect(b, "! 5", "1 2 1 -1");
    effect(b, "{: a b c :}", "1 3 0 -1");
    effect(b, "{: | a b c :}", "1 0 0 -1");
    b.end();
  }

  private static void inOfWaysAndKinds() {
    Bench b = new Bench("part 5: what takes none counts for nothing, each kind of item takes what it takes");
    effect(b, "IF THEN", "1 1 0 -1");
    effect(b, "1 IF 1 2 3 ELSE DROP DROP 4 5 6 7 8 THEN", "1 2 5 -1");
    effect(b, "DO LOOP", "1 2 0 -1");
    effect(b, "?DO LOOP", "1 2 0 -1");
    effect(b, "1 0 DO +LOOP", "0 0 0 3");
    effect(b, "1 0 DO 1 +LOOP", "1 0 0 -1");
    effect(b, "DO 1 DUP +LOOP", "0 0 0 1");
    effect(b, "CASE OF ENDOF ENDCASE", "1 2 0 -1");
    effect(b, "CASE OF 5 ENDOF 5 ENDCASE", "1 2 1 -1");
    effect(b, "CASE 1 OF EXECUTE ENDOF ENDCASE", "2 0 0 2");
    effect(b, "CASE 1 OF ENDOF EXECUTE ENDCASE", "2 0 0 3");
    effect(b, "CASE 1 OF ENDOF ENDCASE", "1 1 0 -1");
    effect(b, "CASE 1 OF 5 ENDOF 6 SWAP ENDCASE", "1 1 1 -1");
    effect(b, "DROP TRUE DEPTH HERE 2DROP DROP", "1 1 0 -1");
    effect(b, "2DROP 5 5 5 5", "1 2 4 -1");
    effect(b, ">R DROP R>", "1 2 1 -1");
    effect(b, "1 ALIGN CR PAUSE", "1 0 1 -1");
    b.end();
  }

  private static void outCounts() {
    Bench b = new Bench("part 5: OUT is IN and the height at EXIT or DOES");
    effect(b, "DROP DROP DROP", "1 3 0 -1");
    effect(b, "DROP DROP 1 2 3 4", "1 2 4 -1");
    effect(b, "1 2 DOES> DROP DROP DROP", "1 0 2 -1");
    effect(b, "DROP DOES> 5 5", "1 1 0 -1");
    effect(b, "IF 1 EXIT THEN 2 DOES> DROP", "1 1 1 -1");
    b.end();
  }

  private static void withoutExit() {
    Bench b = new Bench("part 5: without an EXIT that is come to, UNKNOWN at the first item", 4, 0);
    effect(b, "BEGIN AGAIN", "2 0 0 0");
    effect(b, "1 2 BEGIN AGAIN", "2 0 0 0");
    effect(b, "BEGIN DUP DROP AGAIN", "2 0 0 0");
    effect(b, "IF ABORT ELSE STOP THEN", "2 0 0 0");
    effect(b, "IF ABORT ELSE STOP THEN BEGIN AGAIN", "2 0 0 0");
    b.good(": q 1 ; : w 5 BEGIN AGAIN ;");
    b.due("its first item", b.effect("w"), "2 0 0 2");
    b.end();
  }

  private static void doesItself() {
    Bench b = new Bench("part 5: a definition that does itself, such items end their ways, then again with the IN and OUT of that");
    effect(b, "RECURSE", "2 0 0 0");
    effect(b, "5 RECURSE", "2 0 0 0");
    effect(b, "IF RECURSE THEN", "0 0 0 2");
    effect(b, "DUP IF RECURSE THEN", "1 1 1 -1");
    effect(b, "DUP IF 1- RECURSE THEN DROP", "0 0 0 4");
    effect(b, "DUP 1 > IF DUP 1- RECURSE * THEN", "1 1 1 -1");
    effect(b, "IF 1 RECURSE THEN", "1 1 0 -1");
    effect(b, "IF EXIT THEN RECURSE", "0 0 0 3");
    effect(b, "[: RECURSE ;] DROP", "1 0 0 -1");
    Bench c = new Bench("", 4, 0);
    c.good(": w DUP IF RECURSE THEN ; : v IF 1 RECURSE THEN ; : u IF RECURSE THEN 5 DROP ; : x ABORT RECURSE ; : y 1 ;");
    b.due("one", c.effect("w"), "1 1 1 -1");
    b.due("behind it another", c.effect("v"), "1 1 0 -1");
    b.due("a CONFLICT behind that", c.effect("u"), "0 0 0 " + (c.house.word(0, c.find("u"), 3) + 2));
    b.due("none that comes to an EXIT", c.effect("x"), "2 0 0 " + c.house.word(0, c.find("x"), 3));
    b.due("one that does not do itself", c.effect("y"), "1 0 1 -1");
    b.end();
  }

  private static void doesItselfTwice() {
    Bench b = new Bench("part 5: if that comes to another IN or OUT, UNKNOWN at the first item, a CONFLICT stays one", 4, 0);
    effect(b, "DUP IF DROP RECURSE ELSE DROP THEN", "0 0 0 6");
    effect(b, "IF 1 RECURSE 5 ELSE THEN", "0 0 0 5");
    effect(b, "IF RECURSE 1 ELSE 1 THEN", "2 0 0 0");
    effect(b, "IF 1 RECURSE EXECUTE ELSE THEN", "2 0 0 3");
    effect(b, "IF EXIT THEN 1 RECURSE", "1 1 0 -1");
    effect(b, "IF EXIT THEN DROP 1 RECURSE", "0 0 0 5");
    b.good(": q 1 ; : w IF RECURSE 1 ELSE 1 THEN ;");
    b.due("its first item", b.effect("w"), "2 0 0 2");
    b.end();
  }

  /** A definition made leaner: how many fewer, its items then; all items and its effect stay. */
  private static void lean(Bench b, String text, int fewer, String items) {
    Bench one = new Bench("", 4, 0);
    b.due("running " + text, one.run(": w " + text + " ;"), 0);
    String effect = one.effect("w");
    int all = one.house.count(0, 2);
    b.due("fewer of " + text, one.house.lean(0, 172), fewer);
    b.due("items of " + text, one.items(0, 0, one.house.word(0, 172, 4)), items);
    b.due("all items of " + text, one.house.count(0, 2), all);
    b.due("effect of " + text, one.effect("w"), effect);
    b.due("again, " + text, one.house.lean(0, 172), 0);
  }

  private static void leanerCells() {
    Bench b = new Bench("part 5: LIT LIT and one of + - * AND OR XOR = <> < > MIN MAX become one LIT");
    String[][] due = {{"+", "15"}, {"-", "9"}, {"*", "36"}, {"AND", "0"}, {"OR", "15"}, {"XOR", "15"}, {"=", "0"}, {"<>", "-1"}, {"<", "0"}, {">", "-1"},
      {"MIN", "3"}, {"MAX", "12"}};
    for (String[] d : due) lean(b, "12 3 " + d[0], 2, "1:" + d[1] + " 0:150");
    Bench one = new Bench("", 4, 0);
    String told = " + - * AND OR XOR = <> < > MIN MAX ";
    for (int t = 0; t < 83; t++) {
      one = new Bench("", 4, 0);
      StringBuilder name = new StringBuilder();
      for (int i = 0; i < one.house.word(0, t, 6); i++) name.append((char) one.house.name(0, t, i));
      one.good(": w DUP 1 1 " + name + " ;");
      boolean goes = told.contains(" " + name + " ");
      boolean one1 = " NEGATE INVERT 0= 1+ 1- 2* ".contains(" " + name + " ");
      b.due("of " + name, one.house.lean(0, 172), goes || t == 1 ? 2 : one1 ? 1 : 0);
    }
    for (int cell = 2; cell <= 3; cell++) {
      Bench c = new Bench("", cell, 0);
      int top = (1 << (8 * cell - 1)) - 1;
      c.good(": w " + top + " 1 + " + top + " " + top + " * " + (-top - 1) + " 1 - ;");
      c.house.lean(0, 172);
      b.due("going round", c.items(0, 0, 3), "1:" + (-top - 1) + " 1:1 1:" + top);
    }
    b.end();
  }

  private static void leanerOneCell() {
    Bench b = new Bench("part 5: LIT and one of NEGATE INVERT 0= 1+ 1- 2* become one");
    String[][] due = {{"NEGATE", "-5"}, {"INVERT", "-6"}, {"0=", "0"}, {"1+", "6"}, {"1-", "4"}, {"2*", "10"}};
    for (String[] d : due) lean(b, "5 " + d[0], 1, "1:" + d[1] + " 0:150");
    lean(b, "0 0=", 1, "1:-1 0:150");
    lean(b, "2147483647 1+", 1, "1:-2147483648 0:150");
    lean(b, "-2147483648 NEGATE", 1, "1:-2147483648 0:150");
    lean(b, "1073741824 2*", 1, "1:-2147483648 0:150");
    lean(b, "5 ABS", 0, "1:5 0:34 0:150");
    lean(b, "5 2/", 0, "1:5 0:32 0:150");
    lean(b, "5 0<>", 0, "1:5 0:51 0:150");
    lean(b, "DUP 1+", 0, "0:0 0:29 0:150");
    lean(b, "5 DUP +", 0, "1:5 0:0 0:21 0:150");
    lean(b, "DUP 5 +", 0, "0:0 1:5 0:21 0:150");
    b.end();
  }

  private static void leanerPairs() {
    Bench b = new Bench("part 5: SWAP SWAP, DUP DROP, NEGATE NEGATE, INVERT INVERT, >R R>, LIT DROP go");
    String[] words = {"SWAP", "DUP", "DROP", "NEGATE", "INVERT", ">R", "R>", "5", "OVER", "NIP", "2DUP", "1+"};
    String told = "|SWAP SWAP|DUP DROP|NEGATE NEGATE|INVERT INVERT|>R R>|5 DROP|";
    for (String one : words) {
      for (String other : words) {
        boolean goes = told.contains("|" + one + " " + other + "|");
        boolean folds = one.equals("5") && (other.equals("NEGATE") || other.equals("INVERT") || other.equals("1+"));
        Bench h = new Bench("", 4, 0);
        h.good(": w " + one + " " + other + " ;");
        b.due(one + " " + other, h.house.lean(0, 172), goes ? 2 : folds ? 1 : 0);
      }
    }
    b.end();
  }

  private static void leanerJumps() {
    Bench b = new Bench("part 5: JUMP to the next item goes, no other jump does");
    lean(b, "AHEAD THEN", 1, "0:150");
    lean(b, "IF THEN", 0, "3:1 0:150");
    lean(b, "DO LOOP", 0, "4:0 6:1 0:150");
    lean(b, "?DO LOOP", 0, "5:2 6:1 0:150");
    lean(b, "DO LEAVE LOOP", 0, "4:0 8:3 6:1 0:150");
    lean(b, "BEGIN AGAIN", 0, "2:0 0:150");
    lean(b, "AHEAD DUP THEN", 0, "2:2 0:0 0:150");
    lean(b, "CASE OF ENDOF ENDCASE", 0, "9:2 2:3 0:1 0:150");
    lean(b, "IF ELSE THEN", 1, "3:1 0:150");
    b.end();
  }

  private static void leanerNotLed() {
    Bench b = new Bench("part 5: no item but the first of these may be one to which a jump leads");
    lean(b, "IF SWAP THEN SWAP", 0, "3:2 0:2 0:2 0:150");
    lean(b, "IF SWAP SWAP THEN", 2, "3:1 0:150");
    lean(b, "IF THEN SWAP SWAP", 2, "3:1 0:150");
    lean(b, "IF 5 THEN DROP", 0, "3:2 1:5 0:1 0:150");
    lean(b, "IF 5 THEN NEGATE", 0, "3:2 1:5 0:33 0:150");
    lean(b, "5 BEGIN 1+ AGAIN", 0, "1:5 0:29 2:1 0:150");
    lean(b, "IF 5 THEN 6 +", 0, "3:2 1:5 1:6 0:21 0:150");
    lean(b, "IF 5 6 THEN +", 0, "3:3 1:5 1:6 0:21 0:150");
    lean(b, "IF THEN 5 6 +", 2, "3:1 1:11 0:150");
    lean(b, "DO 5 6 + LOOP", 2, "4:0 1:11 6:1 0:150");
    lean(b, "SWAP BEGIN SWAP AGAIN", 0, "0:2 0:2 2:1 0:150");
    lean(b, "CASE OF SWAP ENDOF SWAP ENDCASE", 0, "9:3 0:2 2:5 0:2 0:1 0:150");
    lean(b, "SWAP ?DO LOOP SWAP", 0, "0:2 5:3 6:2 0:2 0:150");
    lean(b, "DO 1 LEAVE LOOP DROP", 0, "4:0 1:1 8:4 6:1 0:1 0:150");
    b.end();
  }

  private static void leanerOrder() {
    Bench b = new Bench("part 5: as long as one can be done, the one at the least place");
    lean(b, "1 2 3 + +", 4, "1:6 0:150");
    lean(b, "1 2 + 3 +", 4, "1:6 0:150");
    lean(b, "SWAP SWAP SWAP", 2, "0:2 0:150");
    lean(b, "NEGATE NEGATE NEGATE", 2, "0:33 0:150");
    lean(b, "5 NEGATE NEGATE", 2, "1:5 0:150");
    lean(b, "DUP 5 DROP DROP", 4, "0:150");
    lean(b, "DUP DUP DROP DROP", 4, "0:150");
    lean(b, ">R >R R> R>", 4, "0:150");
    lean(b, "1 2 DROP DROP", 4, "0:150");
    lean(b, "AHEAD AHEAD THEN THEN", 2, "0:150");
    lean(b, "AHEAD 1 DROP THEN", 3, "0:150");
    lean(b, "SWAP AHEAD THEN SWAP", 3, "0:150");
    b.end();
  }

  private static void leanerLeads() {
    Bench b = new Bench("part 5: jumps lead to what they led to, to one that went: to what stands there then");
    lean(b, "1 2 + IF 3 THEN", 2, "1:3 3:3 1:3 0:150");
    lean(b, "IF 1 2 + THEN 5", 2, "3:2 1:3 1:5 0:150");
    lean(b, "SWAP SWAP BEGIN 5 AGAIN", 2, "1:5 2:0 0:150");
    lean(b, "BEGIN SWAP SWAP AGAIN", 2, "2:0 0:150");
    lean(b, "IF DUP DROP THEN", 2, "3:1 0:150");
    lean(b, "IF THEN DUP DROP 7", 2, "3:1 1:7 0:150");
    lean(b, "IF AHEAD THEN THEN 7", 1, "3:1 1:7 0:150");
    lean(b, "5 BEGIN DUP WHILE SWAP SWAP 1 1+ + REPEAT", 3, "1:5 0:0 3:6 1:2 0:21 2:1 0:150");
    lean(b, "1 1+ 0 ?DO LEAVE I DROP >R R> LOOP", 3, "1:2 1:0 5:7 8:7 0:147 0:1 6:3 0:150");
    b.end();
  }

  private static void leanerStays() {
    Bench b = new Bench("part 5: the items behind move up, the places behind EXIT stay", 4, 0);
    b.good(": a 1 2 + 3 * ; : c 5 DUP ;");
    b.due("a", b.house.lean(0, 172), 4);
    b.due("a's items", b.house.word(0, 172, 4), 2);
    b.due("c is where it was", b.house.word(0, 173, 3), 6);
    b.due("c's items", b.items(0, 6, 9), "1:5 0:0 0:150");
    b.due("all items", b.house.count(0, 2), 9);
    b.data("a c", "9 5 5");
    b.good(": d ;");
    b.due("behind all", b.house.word(0, 174, 3), 9);
    b.due("chip", b.house.chip(0, 172), 3);
    b.end();
  }
}
